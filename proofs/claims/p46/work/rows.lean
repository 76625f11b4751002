section
-- ===== PART A: goes FIRST, ahead of the names: the tables' words, and 'selects' of the private methods out of them =====
/-- a private method of a class that the tables say can be made, by its rows of tables_1 -/
def lw_okq (q : MethodName × Nat) : Prop := (q.1.cls ≠ "java/lang/invoke/MethodHandle" ∧ q.1.cls ≠ "java/lang/invoke/VarHandle") ∧ Cond.instantiable q.1.cls q.2 ∈ tables_1 ∧ Cond.privateMethod q.1 ∈ tables_1 ∧ Cond.instanceMethod q.1 ∈ tables_1
theorem lw_p0 : lw_okq (⟨"Coasterland", "moneyOfGuestsInside", "()J"⟩, 13) := ⟨⟨by decide +kernel, by decide +kernel⟩, List.mem_of_getElem? (i := 24) (by decide +kernel), List.mem_of_getElem? (i := 85) (by decide +kernel), List.mem_of_getElem? (i := 86) (by decide +kernel)⟩
theorem lw_p1 : lw_okq (⟨"java/lang/Throwable", "fillInStackTrace", "(I)Ljava/lang/Throwable;"⟩, 6) := ⟨⟨by decide +kernel, by decide +kernel⟩, List.mem_of_getElem? (i := 133) (by decide +kernel), List.mem_of_getElem? (i := 131) (by decide +kernel), List.mem_of_getElem? (i := 132) (by decide +kernel)⟩
theorem lw_p2 : lw_okq (⟨"Coasterland", "rideAt", "(I)LCoasterland$Ride;"⟩, 13) := ⟨⟨by decide +kernel, by decide +kernel⟩, List.mem_of_getElem? (i := 24) (by decide +kernel), List.mem_of_getElem? (i := 330) (by decide +kernel), List.mem_of_getElem? (i := 331) (by decide +kernel)⟩
theorem lw_p3 : lw_okq (⟨"Coasterland$Ride", "blocksSeenBy", "(I)I"⟩, 15) := ⟨⟨by decide +kernel, by decide +kernel⟩, List.mem_of_getElem? (i := 224) (by decide +kernel), List.mem_of_getElem? (i := 491) (by decide +kernel), List.mem_of_getElem? (i := 492) (by decide +kernel)⟩
theorem lw_p4 : lw_okq (⟨"Coasterland$Ride", "blocksWithTrains", "()I"⟩, 15) := ⟨⟨by decide +kernel, by decide +kernel⟩, List.mem_of_getElem? (i := 224) (by decide +kernel), List.mem_of_getElem? (i := 495) (by decide +kernel), List.mem_of_getElem? (i := 496) (by decide +kernel)⟩
theorem lw_p5 : lw_okq (⟨"Coasterland", "checkMember", "(I)V"⟩, 13) := ⟨⟨by decide +kernel, by decide +kernel⟩, List.mem_of_getElem? (i := 24) (by decide +kernel), List.mem_of_getElem? (i := 518) (by decide +kernel), List.mem_of_getElem? (i := 519) (by decide +kernel)⟩
theorem lw_p6 : lw_okq (⟨"Coasterland", "isCertified", "(II)Z"⟩, 13) := ⟨⟨by decide +kernel, by decide +kernel⟩, List.mem_of_getElem? (i := 24) (by decide +kernel), List.mem_of_getElem? (i := 523) (by decide +kernel), List.mem_of_getElem? (i := 524) (by decide +kernel)⟩
theorem lw_p7 : lw_okq (⟨"Coasterland", "operatesAnother", "(ILCoasterland$Ride;)Z"⟩, 13) := ⟨⟨by decide +kernel, by decide +kernel⟩, List.mem_of_getElem? (i := 24) (by decide +kernel), List.mem_of_getElem? (i := 527) (by decide +kernel), List.mem_of_getElem? (i := 528) (by decide +kernel)⟩
theorem lw_p8 : lw_okq (⟨"Coasterland", "isLightningNear", "()Z"⟩, 13) := ⟨⟨by decide +kernel, by decide +kernel⟩, List.mem_of_getElem? (i := 24) (by decide +kernel), List.mem_of_getElem? (i := 614) (by decide +kernel), List.mem_of_getElem? (i := 615) (by decide +kernel)⟩
theorem lw_p9 : lw_okq (⟨"Coasterland$Ride", "whatKeepsInStop", "(LCoasterland$Train;I)C"⟩, 15) := ⟨⟨by decide +kernel, by decide +kernel⟩, List.mem_of_getElem? (i := 224) (by decide +kernel), List.mem_of_getElem? (i := 623) (by decide +kernel), List.mem_of_getElem? (i := 624) (by decide +kernel)⟩
theorem lw_p10 : lw_okq (⟨"Coasterland$Ride", "isPathFree", "(LCoasterland$Train;)Z"⟩, 15) := ⟨⟨by decide +kernel, by decide +kernel⟩, List.mem_of_getElem? (i := 224) (by decide +kernel), List.mem_of_getElem? (i := 644) (by decide +kernel), List.mem_of_getElem? (i := 645) (by decide +kernel)⟩
theorem lw_p11 : lw_okq (⟨"Coasterland$Line", "takeAt", "(I)V"⟩, 2) := ⟨⟨by decide +kernel, by decide +kernel⟩, List.mem_of_getElem? (i := 253) (by decide +kernel), List.mem_of_getElem? (i := 684) (by decide +kernel), List.mem_of_getElem? (i := 685) (by decide +kernel)⟩
theorem lw_p12 : lw_okq (⟨"Coasterland$Ride", "boardParties", "(LCoasterland$Train;)V"⟩, 15) := ⟨⟨by decide +kernel, by decide +kernel⟩, List.mem_of_getElem? (i := 224) (by decide +kernel), List.mem_of_getElem? (i := 696) (by decide +kernel), List.mem_of_getElem? (i := 697) (by decide +kernel)⟩
theorem lw_p13 : lw_okq (⟨"Coasterland$Ride", "boardParty", "(LCoasterland$Guest;LCoasterland$Train;)V"⟩, 15) := ⟨⟨by decide +kernel, by decide +kernel⟩, List.mem_of_getElem? (i := 224) (by decide +kernel), List.mem_of_getElem? (i := 712) (by decide +kernel), List.mem_of_getElem? (i := 713) (by decide +kernel)⟩
theorem lw_p14 : lw_okq (⟨"Coasterland$Train", "letRidersOut", "()V"⟩, 9) := ⟨⟨by decide +kernel, by decide +kernel⟩, List.mem_of_getElem? (i := 436) (by decide +kernel), List.mem_of_getElem? (i := 741) (by decide +kernel), List.mem_of_getElem? (i := 742) (by decide +kernel)⟩
theorem lw_p15 : lw_okq (⟨"Coasterland", "letGuestsRecover", "()V"⟩, 13) := ⟨⟨by decide +kernel, by decide +kernel⟩, List.mem_of_getElem? (i := 24) (by decide +kernel), List.mem_of_getElem? (i := 774) (by decide +kernel), List.mem_of_getElem? (i := 775) (by decide +kernel)⟩
def lw_privs_1 : List (MethodName × Nat) := [(⟨"Coasterland", "moneyOfGuestsInside", "()J"⟩, 13), (⟨"java/lang/Throwable", "fillInStackTrace", "(I)Ljava/lang/Throwable;"⟩, 6), (⟨"Coasterland", "rideAt", "(I)LCoasterland$Ride;"⟩, 13), (⟨"Coasterland$Ride", "blocksSeenBy", "(I)I"⟩, 15), (⟨"Coasterland$Ride", "blocksWithTrains", "()I"⟩, 15), (⟨"Coasterland", "checkMember", "(I)V"⟩, 13), (⟨"Coasterland", "isCertified", "(II)Z"⟩, 13), (⟨"Coasterland", "operatesAnother", "(ILCoasterland$Ride;)Z"⟩, 13), (⟨"Coasterland", "isLightningNear", "()Z"⟩, 13), (⟨"Coasterland$Ride", "whatKeepsInStop", "(LCoasterland$Train;I)C"⟩, 15), (⟨"Coasterland$Ride", "isPathFree", "(LCoasterland$Train;)Z"⟩, 15), (⟨"Coasterland$Line", "takeAt", "(I)V"⟩, 2), (⟨"Coasterland$Ride", "boardParties", "(LCoasterland$Train;)V"⟩, 15), (⟨"Coasterland$Ride", "boardParty", "(LCoasterland$Guest;LCoasterland$Train;)V"⟩, 15), (⟨"Coasterland$Train", "letRidersOut", "()V"⟩, 9), (⟨"Coasterland", "letGuestsRecover", "()V"⟩, 13)]
theorem lw_r1 : ∀ q ∈ lw_privs_1, lw_okq q := List.forall_mem_cons.mpr ⟨lw_p0, List.forall_mem_cons.mpr ⟨lw_p1, List.forall_mem_cons.mpr ⟨lw_p2, List.forall_mem_cons.mpr ⟨lw_p3, List.forall_mem_cons.mpr ⟨lw_p4, List.forall_mem_cons.mpr ⟨lw_p5, List.forall_mem_cons.mpr ⟨lw_p6, List.forall_mem_cons.mpr ⟨lw_p7, List.forall_mem_cons.mpr ⟨lw_p8, List.forall_mem_cons.mpr ⟨lw_p9, List.forall_mem_cons.mpr ⟨lw_p10, List.forall_mem_cons.mpr ⟨lw_p11, List.forall_mem_cons.mpr ⟨lw_p12, List.forall_mem_cons.mpr ⟨lw_p13, List.forall_mem_cons.mpr ⟨lw_p14, List.forall_mem_cons.mpr ⟨lw_p15, fun _ h => absurd h List.not_mem_nil⟩⟩⟩⟩⟩⟩⟩⟩⟩⟩⟩⟩⟩⟩⟩⟩
theorem lw_p16 : lw_okq (⟨"Coasterland", "guestAt", "(I)LCoasterland$Guest;"⟩, 13) := ⟨⟨by decide +kernel, by decide +kernel⟩, List.mem_of_getElem? (i := 24) (by decide +kernel), List.mem_of_getElem? (i := 834) (by decide +kernel), List.mem_of_getElem? (i := 835) (by decide +kernel)⟩
theorem lw_p17 : lw_okq (⟨"Coasterland", "isInOnePlace", "(LCoasterland$Guest;)Z"⟩, 13) := ⟨⟨by decide +kernel, by decide +kernel⟩, List.mem_of_getElem? (i := 24) (by decide +kernel), List.mem_of_getElem? (i := 1020) (by decide +kernel), List.mem_of_getElem? (i := 1021) (by decide +kernel)⟩
def lw_privs_2 : List (MethodName × Nat) := [(⟨"Coasterland", "guestAt", "(I)LCoasterland$Guest;"⟩, 13), (⟨"Coasterland", "isInOnePlace", "(LCoasterland$Guest;)Z"⟩, 13)]
theorem lw_r2 : ∀ q ∈ lw_privs_2, lw_okq q := List.forall_mem_cons.mpr ⟨lw_p16, List.forall_mem_cons.mpr ⟨lw_p17, fun _ h => absurd h List.not_mem_nil⟩⟩
def lw_privs : List (MethodName × Nat) := lw_privs_1 ++ (lw_privs_2)
def lw_tbl : List Cond := k2_sels lw_privs ++ tables_1
theorem lw_privs_ok : ∀ q ∈ lw_privs, lw_okq q := by
  show ∀ q ∈ lw_privs_1 ++ (lw_privs_2), lw_okq q
  exact List.forall_mem_append.mpr ⟨lw_r1, lw_r2⟩
/-! ===== BEGIN words of one list among another's, by their places ===== -/
theorem goodIn_r {big : List Cond} (ws : List Cond) (ps : List Nat) (hp : ws = ps.filterMap (fun i => big[i]?)) (h : ws.all goodWord = true) : GoodIn big ws := by
  intro w hw
  have h1 := List.all_eq_true.mp h w hw
  rw [hp] at hw
  obtain ⟨i, -, hi⟩ := List.mem_filterMap.mp hw
  have hm : w ∈ big := by first | exact List.mem_of_getElem? hi | exact List.getElem?_mem hi
  exact ⟨hm, good_of_word h1⟩
theorem goodIn_app {big a b : List Cond} (ha : GoodIn big a) (hb : GoodIn big b) : GoodIn big (a ++ b) := fun w h => (List.mem_append.mp h).elim (ha w) (hb w)
theorem goodIn_ca {big a b : List Cond} {c : Cond} (ha : GoodIn big (c :: a)) (hb : GoodIn big b) : GoodIn big (c :: (a ++ b)) := fun w h => (List.mem_cons.mp h).elim (fun e => ha w (List.mem_cons.mpr (Or.inl e))) (fun h => (List.mem_append.mp h).elim (fun h => ha w (List.mem_cons.mpr (Or.inr h))) (hb w))
theorem goodIn_sub {big ws : List Cond} (hm : ∀ w ∈ ws, w ∈ big) (h : ws.all goodWord = true) : GoodIn big ws := fun w hw => ⟨hm w hw, good_of_word (List.all_eq_true.mp h w hw)⟩
/-! ===== END ===== -/

/-! ===== BEGIN exceptions that leave a method, and their catching by the caller (launches without stack traces) ===== -/
section VXA
/-! The laws vx_back, vx_callV, vx_callS, vx_callSW, vx_throw0, vx_throwS follow proofs of the library, with one case more: JvmDerived/Free/Laws.lean (Back.of_free), Shelf42/LK1.lean (callV, callS), Shelf/KitTraced.lean (throwNew0V, throwNewS). -/
/-- where a method has thrown q: the class by its name, the cell, what was written, the world -/
def vx_T (XC : String → State → State → Prop) (st : State) (q : Addr) (t : State) (mc ms : Nat) (free : Addr → Prop) : Prop :=
  ∃ (E : String) (ce : Cell) (L : List Loc), XC E st t ∧ t.heap[q]? = some ce ∧ ce.vm = .none ∧ st.vm.findClass E = some ce.cls ∧ st.WarmedH t.vm ∧ st.sameButNew ({ t with vm := st.vm } : State) L mc ms ∧ ∀ z ∈ L, free z.base
def vx_Q (Qc : Array Value → State → Outcome → State → Prop) (XC : String → State → State → Prop) (mc ms : Nat) (free : Addr → Prop) : Array Value → State → Outcome → State → Prop := fun a st o t =>
  (Qc a st o t ∧ ∃ L, FrameEnd st o t L mc ms ∧ ∀ q ∈ L, free q.base) ∨ ∃ q, o = .threw q ∧ vx_T XC st q t mc ms free
/-- a callee that returns or throws -/
def vx_Met (l : Launch) (y : MethodName) (ws : List Cond) (rm : Room) (Pc : Array Value → State → Prop) (Qc : Array Value → State → Outcome → State → Prop) (XC : String → State → State → Prop) (mc ms : Nat) (free : Addr → Prop) : Prop :=
  MetFree l y (headSpec ws rm) Pc (fun _ _ _ _ _ => True) (vx_Q Qc XC mc ms free)
def vx_Post (XC : String → State → State → Prop) (mc ms : Nat) (free : Addr → Prop) : Pt → Array Value → Addr → Pt → Prop := fun A a q B =>
  ∃ (g : JFrame) (mk : MethodId) (t : State) (L : List Loc) (E : String) (ce : Cell), B.U.heap = t.heap ∧ B.U.vm = t.vm ∧ XC E (A.U.calling g mk a) t ∧ t.heap[q]? = some ce ∧ ce.vm = .none ∧ A.U.vm.findClass E = some ce.cls ∧ B.locs = A.locs ++ L ∧ (∀ z ∈ L, free z.base) ∧ B.cells = A.cells + mc ∧ B.slots = A.slots + ms
def vx_Back (l : Launch) (R : Room) (p : Program) (e : Env) (below : List Frame) (s : State) (sargs : Array Value) (y : MethodName) (len W9 : Nat)
    (Pre : Pt → Array Value → Prop) (Post : Pt → Array Value → Option Value → Pt → Prop) (PostX : Pt → Array Value → Addr → Pt → Prop) : Prop :=
  ∀ (m : MethodId) (meth : Method) (c : Code) (A : Pt) (g : JFrame) (ig : Instr) (mk : MethodId) (a : Array Value),
    Stand p l e R s m sargs below meth c A.U A.locs A.cells A.slots → g.method = m → g.locals.size = c.maxLocals → decode c.code g.pc = .ok (ig, len) →
    2 * g.monitorRoom + (g.stack.map fun v => v.category).sum ≤ W9 → A.U.methodNamed? y = some mk → Pre A a →
    (∃ (v : Option Value) (B : Pt), Stand p l e R s m sargs below meth c B.U B.locs B.cells B.slots ∧ Post A a v B ∧
      Steps p.tables e below (doInvoke e (A.U.setTop g) [] mk a).1 (B.U.setTop { g with pc := g.pc + len, stack := v.toList ++ g.stack })) ∨
    (∃ (q : Addr) (B : Pt), Stand p l e R s m sargs below meth c B.U B.locs B.cells B.slots ∧ PostX A a q B ∧
      Steps p.tables e below (doInvoke e (A.U.setTop g) [] mk a).1 ((B.U.setTop g).pushFrame (.throwing q)))
section Payer
variable {l : Launch} {R : Room} {p : Program} {e : Env} {below : List Frame} {s : State} {sargs : Array Value} {y : MethodName} {len W9 : Nat}
theorem vx_back {ws : List Cond} {rm : Room} {Pc : Array Value → State → Prop} {Qc : Array Value → State → Outcome → State → Prop} {XC : String → State → State → Prop} {mc ms : Nat} {free : Addr → Prop} {bytes : ByteArray} {maxL : Nat} {ret : Option FieldType}
    (hM : vx_Met l y ws rm Pc Qc XC mc ms free) (hblind : FrameBlind Pc) (hrc : rm.cells = mc) (hrs : rm.slots = ms)
    (hframes : rm.frames + 1 ≤ R.frames) (hlocals : W9 + (maxL + 11) + rm.locals ≤ R.locals)
    (hws : ∀ w ∈ ws, ∀ a' U, s.WarmedH U.vm → w.before a' U = true) (hcode : Cond.code y bytes maxL ret ∈ ws) (hinit : ∀ a' U, s.WarmedH U.vm → (Cond.initialized y.cls).before a' U = true) :
    vx_Back l R p e below s sargs y len W9 (PreOf R mc ms Pc) (PostOf Qc mc ms free) (vx_Post XC mc ms free) := by
  intro m meth c A g ig mk a X hg hsize hdg hW hn hp
  have h1 : (headSpec ws rm).pre.before a A.U = true := atoms_intro fun w hw => hws w hw _ _ X.warmed
  have h2 : (Cond.code y bytes maxL ret).before a A.U = true := hws _ hcode _ _ X.warmed
  have h3 : (Cond.initialized y.cls).before a A.U = true := hinit _ _ X.warmed
  have h4 : A.cells + (headSpec ws rm).room.cells ≤ R.cells := by rw [show (headSpec ws rm).room.cells = mc from hrc]; exact hp.1
  have h5 : A.slots + (headSpec ws rm).room.slots ≤ R.slots := by rw [show (headSpec ws rm).room.slots = ms from hrs]; exact hp.2.1
  have hPc : Pc a (A.U.calling g mk a) := hblind _ _ _ _ hp.2.2
  obtain ⟨U, Ls, c0, s0⟩ := A
  dsimp only [Pt.U, Pt.locs, Pt.cells, Pt.slots] at h1 h2 h3 h4 h5 X hn hPc ⊢
  obtain ⟨methY, cY, hmY, hcY, -, hlY, -, -, -, -⟩ := Cond.code_spec hn h2
  obtain ⟨kY, hkY, -⟩ := className_of_methodNamed hn
  have hinitY : kY.init = .initialized := Cond.initialized_spec (findClass_of_methodNamed hn) hkY h3
  have h : At U g.method c below := by rw [hg]; exact X.here
  have hlocals9 : W9 + (maxL + 11) + (headSpec ws rm).room.locals ≤ R.locals := hlocals
  have happ : (headSpec ws rm).appliesLoose y e.platform (U.calling g mk a) = true :=
    Spec.appliesLoose_calling (g := g) h hdg hn hkY hinitY
      (X.room_calling (g := g) (R' := (headSpec ws rm).room) hsize hmY hcY hframes (by rw [hlY]; omega) h4 h5) h1
  obtain ⟨mid, hmid⟩ := h.above
  have hfr : (U.setTop g).frames = (.java g :: mid) ++ below := by rw [State.frames_setTop' g h.top, hmid]; rfl
  obtain ⟨o, s₂, hsteps, -, hend, hq⟩ := Steps.callFree hM p X.admits X.cas X.clock (acts := []) hfr happ hPc trivial
  have hq' : vx_Q Qc XC mc ms free a (U.calling g mk a) o s₂ := hq
  rw [State.frames_setTop' g h.top] at hend
  obtain ⟨g₀, hg0⟩ := Option.isSome_iff_exists.mp h.top
  obtain ⟨r, hr⟩ := State.topJava?_eq_some.mp hg0
  have hr' : (({ U with heap := s₂.heap, slotsUsed := s₂.slotsUsed } : State).setVm s₂.vm).frames = .java g₀ :: r := hr
  rcases hq' with ⟨hqc, L, hfe, hL⟩ | ⟨q, rfl, E, ce, L, hx, hce, hcv, hcl, hW₂, hsm, hL⟩
  · obtain ⟨⟨v, rfl⟩, hW₂, e2, q2, q3, q4, q5, q6⟩ := id hfe
    have e3 : s₂ = ({ (U.calling g mk a).setFrames s₂.frames with heap := s₂.heap, slotsUsed := s₂.slotsUsed } : State).setVm s₂.vm := by
      have : s₂ = ({ s₂ with vm := (U.calling g mk a).vm } : State).setVm s₂.vm := rfl
      rw [e2] at this
      exact this
    obtain ⟨c₂, i₂, len₂, hc₂, hd₂, hf₂⟩ := hend
    have hW' : U.WarmedH s₂.vm := hW₂
    have hcc : c₂ = c := by
      have h1 : s₂.code? g.method = U.code? g.method := by
        rw [State.code?_eq, State.code?_eq, hW'.alike.method?]
      exact Option.some.inj (hc₂.symm.trans (h1.trans h.code))
    subst hcc
    have hlen : len₂ = len := by rw [hdg] at hd₂; cases hd₂; rfl
    subst hlen
    have hs₂ : s₂ = (({ U with heap := s₂.heap, slotsUsed := s₂.slotsUsed } : State).setVm s₂.vm).setTop { g with pc := g.pc + len₂, stack := v.toList ++ g.stack } := by
      refine e3.trans ?_
      rw [hf₂, State.calling_eq h.top, State.setFrames_setFrames, State.setTop_of_frames _ hr', hr]
      rfl
    have hsame : U.sameButNew ({ U with heap := s₂.heap, slotsUsed := s₂.slotsUsed } : State) L mc ms := by
      refine ⟨?_, q2, q3, q4, q5, q6⟩
      obtain ⟨t, ht, -⟩ := State.frames_cons hr
      show ({ U with heap := s₂.heap, slotsUsed := s₂.slotsUsed } : State) = { U.setFrames U.frames with heap := s₂.heap, slotsUsed := s₂.slotsUsed }
      rw [State.setFrames_self ht]
    subst hg
    refine Or.inl ⟨v, ⟨(({ U with heap := s₂.heap, slotsUsed := s₂.slotsUsed } : State).setVm s₂.vm), Ls ++ L, c0 + mc, s0 + ms⟩,
      ⟨X.admits, X.cas, X.clock, X.frames, X.room, X.hears, X.method, X.code, (X.here.setHeapUsed s₂.heap s₂.slotsUsed).setVm hW'.alike, X.tail, State.WarmedH.trans X.warmed hW', X.limits, X.bytes, X.same.trans (hsame.setVm s.vm)⟩,
      ⟨g, mk, s₂, L, rfl, rfl, hqc, rfl, hL, rfl, rfl⟩, ?_⟩
    show Steps p.tables e below _ ((({ U with heap := s₂.heap, slotsUsed := s₂.slotsUsed } : State).setVm s₂.vm).setTop { g with pc := g.pc + len₂, stack := v.toList ++ g.stack })
    rw [← hs₂]
    exact hsteps
  · obtain ⟨e2, q2, q3, q4, q5, q6⟩ := id hsm
    have e3 : s₂ = ({ (U.calling g mk a).setFrames s₂.frames with heap := s₂.heap, slotsUsed := s₂.slotsUsed } : State).setVm s₂.vm := by
      have : s₂ = ({ s₂ with vm := (U.calling g mk a).vm } : State).setVm s₂.vm := rfl
      rw [e2] at this
      exact this
    have hf₂ : s₂.frames = .throwing q :: .java g :: U.frames.tail := hend
    have hW' : U.WarmedH s₂.vm := hW₂
    have hs₂ : s₂ = ((({ U with heap := s₂.heap, slotsUsed := s₂.slotsUsed } : State).setVm s₂.vm).setTop g).pushFrame (.throwing q) := by
      refine e3.trans ?_
      rw [hf₂, State.calling_eq h.top, State.setFrames_setFrames, State.pushFrame, State.frames_setTop _ hr', State.setTop_of_frames _ hr', State.setFrames_setFrames, hr]
      rfl
    have hsame : U.sameButNew ({ U with heap := s₂.heap, slotsUsed := s₂.slotsUsed } : State) L mc ms := by
      refine ⟨?_, q2, q3, q4, q5, q6⟩
      obtain ⟨t, ht, -⟩ := State.frames_cons hr
      show ({ U with heap := s₂.heap, slotsUsed := s₂.slotsUsed } : State) = { U.setFrames U.frames with heap := s₂.heap, slotsUsed := s₂.slotsUsed }
      rw [State.setFrames_self ht]
    subst hg
    refine Or.inr ⟨q, ⟨(({ U with heap := s₂.heap, slotsUsed := s₂.slotsUsed } : State).setVm s₂.vm), Ls ++ L, c0 + mc, s0 + ms⟩,
      ⟨X.admits, X.cas, X.clock, X.frames, X.room, X.hears, X.method, X.code, (X.here.setHeapUsed s₂.heap s₂.slotsUsed).setVm hW'.alike, X.tail, State.WarmedH.trans X.warmed hW', X.limits, X.bytes, X.same.trans (hsame.setVm s.vm)⟩,
      ⟨g, mk, s₂, L, E, ce, rfl, rfl, hx, hce, hcv, hcl, rfl, hL, rfl, rfl⟩, ?_⟩
    show Steps p.tables e below _ (((({ U with heap := s₂.heap, slotsUsed := s₂.slotsUsed } : State).setVm s₂.vm).setTop g).pushFrame (.throwing q))
    rw [← hs₂]
    exact hsteps
end Payer
section Calls
variable {p : Program} {l : Launch} {e : Env} {R : Room} {s : State} {m : MethodId} {args : Array Value} {below : List Frame} {meth : Method} {c : Code} {T : State} {locs : List Loc} {cells slots : Nat}
theorem vx_callV (X : Stand p l e R s m args below meth c T locs cells slots) (hexec : p.tables.exec = Jvm.exec) {own C : String} {index : Nat} {y : MethodName} {bytes : ByteArray} {maxL : Nat} {ret : Option FieldType}
    (hown : s.vm.findClass own = some m.cls) (hlink : (Cond.methodLink own index y).before args s = true) (hinst : (Cond.instanceMethod y).before args s = true) (hsel : (Cond.selects C y y).before args s = true)
    (hcode : (Cond.code y bytes maxL ret).before args s = true) (hy : y.cls ≠ "java/lang/invoke/MethodHandle" ∧ y.cls ≠ "java/lang/invoke/VarHandle")
    {W9 : Nat} {Pre : Pt → Array Value → Prop} {Post : Pt → Array Value → Option Value → Pt → Prop} {PostX : Pt → Array Value → Addr → Pt → Prop} (hK : vx_Back l R p e below s args y 3 W9 Pre Post PostX)
    {b : Addr} {cellB : Cell} (hcell : T.heap[b]? = some cellB) (hobj : cellB.vm.isStatics = false) (hcls : s.vm.findClass C = some cellB.cls)
    {g : JFrame} (hg : g.method = m) (hsize : g.locals.size = c.maxLocals) {argsL rest : List Value} (hlen : ∀ sig, parseMethodDescriptor y.desc = some sig → argsL.length = sig.parameters.length)
    (hstack : g.stack = argsL.reverse ++ .ref b :: rest) (hW : 2 * g.monitorRoom + (rest.map fun v => v.category).sum ≤ W9) (hdg : decode c.code g.pc = .ok (.invokevirtual index, 3))
    (hpre : ∀ vm₁, s.WarmedH vm₁ → Pre ⟨T.setVm vm₁, locs, cells, slots⟩ (Value.ref b :: argsL).toArray) :
    (∃ (v : Option Value) (vm₁ : Vm) (B : Pt), s.WarmedH vm₁ ∧ Stand p l e R s m args below meth c B.U B.locs B.cells B.slots ∧ Post ⟨T.setVm vm₁, locs, cells, slots⟩ (Value.ref b :: argsL).toArray v B ∧
      ∀ target, Steps p.tables e below (B.U.setTop { g with pc := g.pc + 3, stack := v.toList ++ rest }) target → Steps p.tables e below (T.setTop g) target) ∨
    (∃ (q : Addr) (vm₁ : Vm) (B : Pt), s.WarmedH vm₁ ∧ Stand p l e R s m args below meth c B.U B.locs B.cells B.slots ∧ PostX ⟨T.setVm vm₁, locs, cells, slots⟩ (Value.ref b :: argsL).toArray q B ∧
      Steps p.tables e below (T.setTop g) ((B.U.setTop { g with stack := rest }).pushFrame (.throwing q))) := by
  obtain ⟨mk, methM, hnamed, hmethM, hstM, habM⟩ := Cond.instanceMethod_spec hinst
  obtain ⟨methM', cM, hmethM', -, -, -, -, -, -, hsigM⟩ := Cond.code_spec hnamed hcode
  cases hmethM.symm.trans hmethM'
  obtain ⟨c2, r2, m2, q1, q2, q3, q4, kP, hkP, hkPi⟩ := Cond.selects_spec hsel
  cases hcls.symm.trans q1
  cases (State.methodFound?_of_named hnamed hy).symm.trans q2
  cases hnamed.symm.trans q3
  have hselP : selectMethod e.platform s.vm cellB.cls mk = .method mk := by rw [Launch.admits_selectMethod X.admits]; exact q4
  obtain ⟨vm₁, X₁, hstep₁⟩ := X.invokevirtual hexec hown hlink hnamed hmethM hstM hkP hkPi hy (a := b) (cell := cellB) hcell
    (fun z h => by rw [h] at hobj; cases hobj) hselP hmethM habM hkP hkPi (g := g) hg (argsL := argsL) (rest := rest) (hlen _ hsigM) hstack hdg
  rcases hK m meth c ⟨T.setVm vm₁, locs, cells, slots⟩ { g with stack := rest } (.invokevirtual index) mk (Value.ref b :: argsL).toArray X₁ hg hsize hdg hW (X₁.named hnamed) (hpre vm₁ X₁.warmed) with ⟨v, B, X', hpost, hsteps⟩ | ⟨q, B, X', hpost, hsteps⟩
  · exact Or.inl ⟨v, vm₁, B, X₁.warmed, X', hpost, fun target h => hstep₁ _ fun acts => by rw [doInvoke_state]; exact hsteps.trans h⟩
  · exact Or.inr ⟨q, vm₁, B, X₁.warmed, X', hpost, hstep₁ _ fun acts => by rw [doInvoke_state]; exact hsteps⟩
theorem vx_callS (X : Stand p l e R s m args below meth c T locs cells slots) (hexec : p.tables.exec = Jvm.exec) {own : String} {index : Nat} {y : MethodName} {bytes : ByteArray} {maxL : Nat} {ret : Option FieldType}
    (hown : s.vm.findClass own = some m.cls) (hlink : (Cond.methodLink own index y).before args s = true) (hstat : (Cond.static y).before args s = true) (hinit : (Cond.initialized y.cls).before args s = true)
    (hcode : (Cond.code y bytes maxL ret).before args s = true) (hy : y.cls ≠ "java/lang/invoke/MethodHandle" ∧ y.cls ≠ "java/lang/invoke/VarHandle")
    {W9 : Nat} {Pre : Pt → Array Value → Prop} {Post : Pt → Array Value → Option Value → Pt → Prop} {PostX : Pt → Array Value → Addr → Pt → Prop} (hK : vx_Back l R p e below s args y 3 W9 Pre Post PostX)
    {g : JFrame} (hg : g.method = m) (hsize : g.locals.size = c.maxLocals) {argsL rest : List Value} (hlen : ∀ sig, parseMethodDescriptor y.desc = some sig → argsL.length = sig.parameters.length)
    (hstack : g.stack = argsL.reverse ++ rest) (hW : 2 * g.monitorRoom + (rest.map fun v => v.category).sum ≤ W9) (hdg : decode c.code g.pc = .ok (.invokestatic index, 3))
    (hpre : ∀ vm₁, s.WarmedH vm₁ → Pre ⟨T.setVm vm₁, locs, cells, slots⟩ argsL.toArray) :
    (∃ (v : Option Value) (vm₁ : Vm) (B : Pt), s.WarmedH vm₁ ∧ Stand p l e R s m args below meth c B.U B.locs B.cells B.slots ∧ Post ⟨T.setVm vm₁, locs, cells, slots⟩ argsL.toArray v B ∧
      ∀ target, Steps p.tables e below (B.U.setTop { g with pc := g.pc + 3, stack := v.toList ++ rest }) target → Steps p.tables e below (T.setTop g) target) ∨
    (∃ (q : Addr) (vm₁ : Vm) (B : Pt), s.WarmedH vm₁ ∧ Stand p l e R s m args below meth c B.U B.locs B.cells B.slots ∧ PostX ⟨T.setVm vm₁, locs, cells, slots⟩ argsL.toArray q B ∧
      Steps p.tables e below (T.setTop g) ((B.U.setTop { g with stack := rest }).pushFrame (.throwing q))) := by
  obtain ⟨mk, hnamed⟩ := Cond.code_named hcode
  obtain ⟨methM, cM, hmethM, -, -, -, -, -, -, hsigM⟩ := Cond.code_spec hnamed hcode
  have hstatic : methM.isStatic = true := Cond.static_spec hnamed hmethM hstat
  obtain ⟨kP, hkP, -⟩ := className_of_methodNamed hnamed
  have hinitP : kP.init = .initialized := Cond.initialized_spec (findClass_of_methodNamed hnamed) hkP hinit
  obtain ⟨vm₁, X₁, hstep₁⟩ := X.invokestatic hexec hown hlink hnamed hmethM hstatic hkP hinitP hy (g := g) hg (argsL := argsL) (rest := rest) (hlen _ hsigM) hstack hdg
  rcases hK m meth c ⟨T.setVm vm₁, locs, cells, slots⟩ { g with stack := rest } (.invokestatic index) mk argsL.toArray X₁ hg hsize hdg hW (X₁.named hnamed) (hpre vm₁ X₁.warmed) with ⟨v, B, X', hpost, hsteps⟩ | ⟨q, B, X', hpost, hsteps⟩
  · exact Or.inl ⟨v, vm₁, B, X₁.warmed, X', hpost, fun target h => hstep₁ _ fun acts => by rw [doInvoke_state]; exact hsteps.trans h⟩
  · exact Or.inr ⟨q, vm₁, B, X₁.warmed, X', hpost, hstep₁ _ fun acts => by rw [doInvoke_state]; exact hsteps⟩
end Calls
theorem vx_cls {s : State} {T : State} {vm₁ : Vm} {E : String} {k : ClassId} (hW : s.WarmedH vm₁) (h : (T.setVm vm₁).vm.findClass E = some k) : s.vm.findClass E = some k := by
  have h1 : vm₁.findClass E = some k := h
  rw [hW.alike.findClass] at h1
  exact h1
/-- the method's frame g, with q thrown over it -/
def vx_W (p : Program) (l : Launch) (e : Env) (R : Room) (s : State) (m : MethodId) (args : Array Value) (below : List Frame) (meth : Method) (c : Code) (H : Heap) (locs : List Loc) (cells slots : Nat) (Q : State → Prop) (g : JFrame) (q : Addr) : Prop :=
  ∀ T : State, T.heap = H → Stand p l e R s m args below meth c T locs cells slots → ∃ t, Steps p.tables e below ((T.setTop g).pushFrame (.throwing q)) t ∧ Q t
def vx_Run (p : Program) (l : Launch) (e : Env) (R : Room) (s : State) (m : MethodId) (args : Array Value) (below : List Frame) (meth : Method) (c : Code) (H : Heap) (locs : List Loc) (cells slots mc ms : Nat) (g : JFrame) (rest : List Value) (Qa : State → Outcome → State → Prop) (XC : String → State → State → Prop) (free : Addr → Prop) : Prop :=
  ∀ T : State, T.heap = H → Stand p l e R s m args below meth c T locs cells slots →
    (∃ (v : Option Value) (st₀ t T' : State) (L : List Loc), st₀.heap = H ∧ Stand p l e R s m args below meth c T' (locs ++ L) (cells + mc) (slots + ms) ∧ (∀ q ∈ L, free q.base) ∧ T'.heap = t.heap ∧ T'.vm = t.vm ∧ Qa st₀ (.returned v) t ∧
      Goes p e below T g T' { g with pc := g.pc + 3, stack := v.toList ++ rest }) ∨
    (∃ (q : Addr) (st₀ t T' : State) (L : List Loc) (E : String) (ce : Cell), st₀.heap = H ∧ Stand p l e R s m args below meth c T' (locs ++ L) (cells + mc) (slots + ms) ∧ (∀ z ∈ L, free z.base) ∧ T'.heap = t.heap ∧ T'.vm = t.vm ∧ XC E st₀ t ∧ t.heap[q]? = some ce ∧ ce.vm = .none ∧ s.vm.findClass E = some ce.cls ∧
      Steps p.tables e below (T.setTop g) ((T'.setTop { g with stack := rest }).pushFrame (.throwing q)))
def vx_X {S : Type} (px : S → Prop) (B : String → S → State → Prop) (A : Nat → Prop) : String → State → State → Prop := fun E st t => ∃ u : S, px u ∧ B E u t ∧ va_F A st t
section Runs
variable {p : Program} {l : Launch} {e : Env} {R : Room} {s : State} {m : MethodId} {args : Array Value} {below : List Frame} {meth : Method} {c : Code} {H : Heap} {locs : List Loc} {cells slots : Nat}
variable {y : MethodName} {bytes cc : ByteArray} {maxL nL mc ms n index : Nat} {ret : Option FieldType} {ws : List Cond} {rm : Room} {Pc : Array Value → State → Prop} {Qc : Array Value → State → Outcome → State → Prop} {XC : String → State → State → Prop} {free : Addr → Prop} {Ts : List Cond} {own C : String} {b : Addr} {As rest : List Value} {g : JFrame}
theorem vx_callBack (cb : CallB R s args own index y bytes maxL ret ws rm mc ms n) (hM : vx_Met l y ws rm Pc Qc XC mc ms free) (hbl : FrameBlind Pc) : vx_Back l R p e below s args y 3 8 (PreOf R mc ms Pc) (PostOf Qc mc ms free) (vx_Post XC mc ms free) := by
  obtain ⟨hrc, hrs, hfr, hlo, hws, hcw, -, hini, -⟩ := cb
  exact vx_back (bytes := bytes) (maxL := maxL) (ret := ret) hM hbl hrc hrs hfr hlo hws hcw (fun a' U hW => word_at hW (Or.inl (by first | rfl | simp [Cond.onTables, Cond.keeps, Cond.steady])) hini)
theorem vx_runV (S : CallFix p m c cc nL s args Ts own) (hM : vx_Met l y ws rm Pc Qc XC mc ms free) (cw : CallW R s args own C index y bytes maxL ret ws rm mc ms n) (hp : PreV s H C b Pc As)
    (hg : g.method = m) (hn : As.length = n) (hsize : g.locals.size = nL) (hstack : g.stack = As.reverse ++ .ref b :: rest) (hW : 2 * g.monitorRoom + (rest.map fun v => v.category).sum ≤ 8) (hdg : decode cc g.pc = .ok (.invokevirtual index, 3)) (hf : cells + mc ≤ R.cells ∧ slots + ms ≤ R.slots) :
    vx_Run p l e R s m args below meth c H locs cells slots mc ms g rest (Qc (Value.ref b :: As).toArray) XC free := by
  have hK : vx_Back l R p e below s args y 3 8 (PreOf R mc ms Pc) (PostOf Qc mc ms free) (vx_Post XC mc ms free) := vx_callBack cw.1 hM hp.1
  obtain ⟨⟨-, -, -, -, -, -, hcode, -, hy, hlen, hl⟩, hin, hse⟩ := cw
  obtain ⟨hx, hb, hml, ho, -⟩ := S
  obtain ⟨-, ⟨cellB, hcB, hoB, hclB⟩, hPc⟩ := hp
  intro T hT X
  rcases vx_callV X hx (C := C) (bytes := bytes) (maxL := maxL) (ret := ret) ho hl hin hse hcode hy hK (by rw [hT]; exact hcB) hoB hclB hg (hsize.trans hml.symm) (argsL := As) (rest := rest) (fun sig h => hn.trans (hlen sig h)) hstack hW (by rw [hb]; exact hdg)
    (fun vm₁ hW₁ => ⟨hf.1, hf.2, hPc (T.setVm vm₁) hT hW₁⟩) with ⟨v, vm₁, ⟨U', l2, c2, s2⟩, hW₁, X', ⟨g', mk, t, L, e1, e2, hq, h1, hL, h2, h3⟩, st⟩ | ⟨q, vm₁, ⟨U', l2, c2, s2⟩, hW₁, X', ⟨g', mk, t, L, E, ce, e1, e2, hq, hce, hcv, hcl, h1, hL, h2, h3⟩, st⟩
  · dsimp only [Pt.U, Pt.locs, Pt.cells, Pt.slots] at X' e1 e2 h1 h2 h3 st
    subst h1; subst h2; subst h3
    exact Or.inl ⟨v, (T.setVm vm₁).calling g' mk (Value.ref b :: As).toArray, t, U', L, hT, X', hL, e1, e2, hq, st⟩
  · dsimp only [Pt.U, Pt.locs, Pt.cells, Pt.slots] at X' e1 e2 h1 h2 h3 st hcl
    subst h1; subst h2; subst h3
    exact Or.inr ⟨q, (T.setVm vm₁).calling g' mk (Value.ref b :: As).toArray, t, U', L, E, ce, hT, X', hL, e1, e2, hq, hce, hcv, vx_cls hW₁ hcl, st⟩
theorem vx_runS (S : CallFix p m c cc nL s args Ts own) (hM : vx_Met l y ws rm Pc Qc XC mc ms free) (cw : CallB R s args own index y bytes maxL ret ws rm mc ms n ∧ (Cond.static y).before args s = true) (hp : PreS s H Pc As)
    (hg : g.method = m) (hn : As.length = n) (hsize : g.locals.size = nL) (hstack : g.stack = As.reverse ++ rest) (hW : 2 * g.monitorRoom + (rest.map fun v => v.category).sum ≤ 8) (hdg : decode cc g.pc = .ok (.invokestatic index, 3)) (hf : cells + mc ≤ R.cells ∧ slots + ms ≤ R.slots) :
    vx_Run p l e R s m args below meth c H locs cells slots mc ms g rest (Qc As.toArray) XC free := by
  have hK : vx_Back l R p e below s args y 3 8 (PreOf R mc ms Pc) (PostOf Qc mc ms free) (vx_Post XC mc ms free) := vx_callBack cw.1 hM hp.1
  obtain ⟨⟨-, -, -, -, -, -, hcode, hini, hy, hlen, hl⟩, hstt⟩ := cw
  obtain ⟨hx, hb, hml, ho, -⟩ := S
  intro T hT X
  rcases vx_callS X hx (bytes := bytes) (maxL := maxL) (ret := ret) ho hl hstt hini hcode hy hK hg (hsize.trans hml.symm) (argsL := As) (rest := rest) (fun sig h => hn.trans (hlen sig h)) hstack hW (by rw [hb]; exact hdg)
    (fun vm₁ hW₁ => ⟨hf.1, hf.2, hp.2 (T.setVm vm₁) hT hW₁⟩) with ⟨v, vm₁, ⟨U', l2, c2, s2⟩, hW₁, X', ⟨g', mk, t, L, e1, e2, hq, h1, hL, h2, h3⟩, st⟩ | ⟨q, vm₁, ⟨U', l2, c2, s2⟩, hW₁, X', ⟨g', mk, t, L, E, ce, e1, e2, hq, hce, hcv, hcl, h1, hL, h2, h3⟩, st⟩
  · dsimp only [Pt.U, Pt.locs, Pt.cells, Pt.slots] at X' e1 e2 h1 h2 h3 st
    subst h1; subst h2; subst h3
    exact Or.inl ⟨v, (T.setVm vm₁).calling g' mk As.toArray, t, U', L, hT, X', hL, e1, e2, hq, st⟩
  · dsimp only [Pt.U, Pt.locs, Pt.cells, Pt.slots] at X' e1 e2 h1 h2 h3 st hcl
    subst h1; subst h2; subst h3
    exact Or.inr ⟨q, (T.setVm vm₁).calling g' mk As.toArray, t, U', L, E, ce, hT, X', hL, e1, e2, hq, hce, hcv, vx_cls hW₁ hcl, st⟩
end Runs
section Rows
variable {p : Program} {l : Launch} {e : Env} {R : Room} {s : State} {m : MethodId} {args : Array Value} {below : List Frame} {meth : Method} {c : Code} {H : Heap} {locs : List Loc} {cells slots : Nat} {Q : State → Prop}
variable {mc ms : Nat} {free : Addr → Prop} {A0 A1 : Nat → Prop} {H0 : Heap} {a : Array Value} {pc : Nat} {ls : Array Slot} {st0 rest : List Value}
theorem vx_keep {st₀ t T' : State} {L : List Loc} (h0 : st₀.heap = H) (e1 : T'.heap = t.heap) (hS : va_S A0 H0 H locs) (hA : ∀ q, q < H.size → A1 q → A0 q) (hf : ∀ q, free q → A0 q) (hL : ∀ q ∈ L, free q.base) (hF : va_F A1 st₀ t) :
    H.size ≤ T'.heap.size ∧ (∀ q : Nat, q < H.size → ¬ A1 q → T'.heap[q]? = H[q]?) ∧ va_S A0 H0 T'.heap (locs ++ L) := by
  obtain ⟨hz, hk⟩ := hF
  rw [h0] at hz hk
  exact ⟨by rw [e1]; exact hz, fun q h1 h2 => by rw [e1]; exact hk q h1 h2,
    ⟨Nat.le_trans hS.1 (by rw [e1]; exact hz), fun q h1 h2 => by rw [e1, hk q (Nat.lt_of_lt_of_le h1 hS.1) (fun z => h2 (hA q (Nat.lt_of_lt_of_le h1 hS.1) z))]; exact hS.2.1 q h1 h2, fun q hq => by
      rcases List.mem_append.mp hq with h | h
      · exact hS.2.2 q h
      · exact hf _ (hL q h)⟩⟩
theorem vx_calli {S SX : Type} {post : Int32 → S → Prop} {px : SX → Prop} {B : S → State → Prop} {BX : String → SX → State → Prop} {AX : Nat → Prop} (hr : vx_Run p l e R s m args below meth c H locs cells slots mc ms (F0 m pc ls st0) rest (va_Qi post B A1 a) (vx_X px BX AX) free) (hS : va_S A0 H0 H locs) (hA : ∀ q, q < H.size → A1 q → A0 q) (hf : ∀ q, free q → A0 q) (hAX : ∀ q, q < H.size → AX q → A0 q)
    (kx : ∀ (E : String) (ce : Cell) (q9 : Addr) (u : SX) (t : State) (H1 : Heap) (locs1 : List Loc), t.heap = H1 → s.vm.Alike t.vm → px u → BX E u t → H.size ≤ H1.size → (∀ q : Nat, q < H.size → ¬ AX q → H1[q]? = H[q]?) → va_S A0 H0 H1 locs1 → H1[q9]? = some ce → ce.vm = .none → s.vm.findClass E = some ce.cls → vx_W p l e R s m args below meth c H1 locs1 (cells + mc) (slots + ms) Q (F0 m pc ls rest) q9)
    (kk : ∀ (r : Int32) (u : S) (t : State) (H1 : Heap) (locs1 : List Loc), t.heap = H1 → s.vm.Alike t.vm → post r u → B u t → H.size ≤ H1.size → (∀ q : Nat, q < H.size → ¬ A1 q → H1[q]? = H[q]?) → va_S A0 H0 H1 locs1 → W p l e R s m args below meth c H1 locs1 (cells + mc) (slots + ms) Q (F0 m (pc + 3) ls (.int r :: rest))) : W p l e R s m args below meth c H locs cells slots Q (F0 m pc ls st0) := by
  intro T hT X
  rcases hr T hT X with ⟨v, st₀, t, T', L, h0, X', hL, e1, e2, ⟨⟨r, u, hv, hp, hb⟩, hF⟩, st⟩ | ⟨q, st₀, t, T', L, E, ce, h0, X', hL, e1, e2, ⟨u, hp, hb, hF⟩, hce, hcv, hcl, st⟩
  · cases hv
    obtain ⟨k1, k2, k3⟩ := vx_keep h0 e1 hS hA hf hL hF
    obtain ⟨t2, a1, b1⟩ := kk r u t T'.heap (locs ++ L) e1.symm (by rw [← e2]; exact X'.warmed.alike) hp hb k1 k2 k3 T' rfl X'
    exact ⟨t2, st t2 a1, b1⟩
  · obtain ⟨k1, k2, k3⟩ := vx_keep h0 e1 hS hAX hf hL hF
    obtain ⟨t2, a1, b1⟩ := kx E ce q u t T'.heap (locs ++ L) e1.symm (by rw [← e2]; exact X'.warmed.alike) hp hb k1 k2 k3 (by rw [e1]; exact hce) hcv hcl T' rfl X'
    exact ⟨t2, st.trans a1, b1⟩
theorem vx_calll {S SX : Type} {post : Int64 → S → Prop} {px : SX → Prop} {B : S → State → Prop} {BX : String → SX → State → Prop} {AX : Nat → Prop} (hr : vx_Run p l e R s m args below meth c H locs cells slots mc ms (F0 m pc ls st0) rest (va_Ql post B A1 a) (vx_X px BX AX) free) (hS : va_S A0 H0 H locs) (hA : ∀ q, q < H.size → A1 q → A0 q) (hf : ∀ q, free q → A0 q) (hAX : ∀ q, q < H.size → AX q → A0 q)
    (kx : ∀ (E : String) (ce : Cell) (q9 : Addr) (u : SX) (t : State) (H1 : Heap) (locs1 : List Loc), t.heap = H1 → s.vm.Alike t.vm → px u → BX E u t → H.size ≤ H1.size → (∀ q : Nat, q < H.size → ¬ AX q → H1[q]? = H[q]?) → va_S A0 H0 H1 locs1 → H1[q9]? = some ce → ce.vm = .none → s.vm.findClass E = some ce.cls → vx_W p l e R s m args below meth c H1 locs1 (cells + mc) (slots + ms) Q (F0 m pc ls rest) q9)
    (kk : ∀ (r : Int64) (u : S) (t : State) (H1 : Heap) (locs1 : List Loc), t.heap = H1 → s.vm.Alike t.vm → post r u → B u t → H.size ≤ H1.size → (∀ q : Nat, q < H.size → ¬ A1 q → H1[q]? = H[q]?) → va_S A0 H0 H1 locs1 → W p l e R s m args below meth c H1 locs1 (cells + mc) (slots + ms) Q (F0 m (pc + 3) ls (.long r :: rest))) : W p l e R s m args below meth c H locs cells slots Q (F0 m pc ls st0) := by
  intro T hT X
  rcases hr T hT X with ⟨v, st₀, t, T', L, h0, X', hL, e1, e2, ⟨⟨r, u, hv, hp, hb⟩, hF⟩, st⟩ | ⟨q, st₀, t, T', L, E, ce, h0, X', hL, e1, e2, ⟨u, hp, hb, hF⟩, hce, hcv, hcl, st⟩
  · cases hv
    obtain ⟨k1, k2, k3⟩ := vx_keep h0 e1 hS hA hf hL hF
    obtain ⟨t2, a1, b1⟩ := kk r u t T'.heap (locs ++ L) e1.symm (by rw [← e2]; exact X'.warmed.alike) hp hb k1 k2 k3 T' rfl X'
    exact ⟨t2, st t2 a1, b1⟩
  · obtain ⟨k1, k2, k3⟩ := vx_keep h0 e1 hS hAX hf hL hF
    obtain ⟨t2, a1, b1⟩ := kx E ce q u t T'.heap (locs ++ L) e1.symm (by rw [← e2]; exact X'.warmed.alike) hp hb k1 k2 k3 (by rw [e1]; exact hce) hcv hcl T' rfl X'
    exact ⟨t2, st.trans a1, b1⟩
theorem vx_callf {S SX : Type} {post : UInt32 → S → Prop} {px : SX → Prop} {B : S → State → Prop} {BX : String → SX → State → Prop} {AX : Nat → Prop} (hr : vx_Run p l e R s m args below meth c H locs cells slots mc ms (F0 m pc ls st0) rest (va_Qf post B A1 a) (vx_X px BX AX) free) (hS : va_S A0 H0 H locs) (hA : ∀ q, q < H.size → A1 q → A0 q) (hf : ∀ q, free q → A0 q) (hAX : ∀ q, q < H.size → AX q → A0 q)
    (kx : ∀ (E : String) (ce : Cell) (q9 : Addr) (u : SX) (t : State) (H1 : Heap) (locs1 : List Loc), t.heap = H1 → s.vm.Alike t.vm → px u → BX E u t → H.size ≤ H1.size → (∀ q : Nat, q < H.size → ¬ AX q → H1[q]? = H[q]?) → va_S A0 H0 H1 locs1 → H1[q9]? = some ce → ce.vm = .none → s.vm.findClass E = some ce.cls → vx_W p l e R s m args below meth c H1 locs1 (cells + mc) (slots + ms) Q (F0 m pc ls rest) q9)
    (kk : ∀ (r : UInt32) (u : S) (t : State) (H1 : Heap) (locs1 : List Loc), t.heap = H1 → s.vm.Alike t.vm → post r u → B u t → H.size ≤ H1.size → (∀ q : Nat, q < H.size → ¬ A1 q → H1[q]? = H[q]?) → va_S A0 H0 H1 locs1 → W p l e R s m args below meth c H1 locs1 (cells + mc) (slots + ms) Q (F0 m (pc + 3) ls (.float r :: rest))) : W p l e R s m args below meth c H locs cells slots Q (F0 m pc ls st0) := by
  intro T hT X
  rcases hr T hT X with ⟨v, st₀, t, T', L, h0, X', hL, e1, e2, ⟨⟨r, u, hv, hp, hb⟩, hF⟩, st⟩ | ⟨q, st₀, t, T', L, E, ce, h0, X', hL, e1, e2, ⟨u, hp, hb, hF⟩, hce, hcv, hcl, st⟩
  · cases hv
    obtain ⟨k1, k2, k3⟩ := vx_keep h0 e1 hS hA hf hL hF
    obtain ⟨t2, a1, b1⟩ := kk r u t T'.heap (locs ++ L) e1.symm (by rw [← e2]; exact X'.warmed.alike) hp hb k1 k2 k3 T' rfl X'
    exact ⟨t2, st t2 a1, b1⟩
  · obtain ⟨k1, k2, k3⟩ := vx_keep h0 e1 hS hAX hf hL hF
    obtain ⟨t2, a1, b1⟩ := kx E ce q u t T'.heap (locs ++ L) e1.symm (by rw [← e2]; exact X'.warmed.alike) hp hb k1 k2 k3 (by rw [e1]; exact hce) hcv hcl T' rfl X'
    exact ⟨t2, st.trans a1, b1⟩
theorem vx_calld {S SX : Type} {post : UInt64 → S → Prop} {px : SX → Prop} {B : S → State → Prop} {BX : String → SX → State → Prop} {AX : Nat → Prop} (hr : vx_Run p l e R s m args below meth c H locs cells slots mc ms (F0 m pc ls st0) rest (va_Qd post B A1 a) (vx_X px BX AX) free) (hS : va_S A0 H0 H locs) (hA : ∀ q, q < H.size → A1 q → A0 q) (hf : ∀ q, free q → A0 q) (hAX : ∀ q, q < H.size → AX q → A0 q)
    (kx : ∀ (E : String) (ce : Cell) (q9 : Addr) (u : SX) (t : State) (H1 : Heap) (locs1 : List Loc), t.heap = H1 → s.vm.Alike t.vm → px u → BX E u t → H.size ≤ H1.size → (∀ q : Nat, q < H.size → ¬ AX q → H1[q]? = H[q]?) → va_S A0 H0 H1 locs1 → H1[q9]? = some ce → ce.vm = .none → s.vm.findClass E = some ce.cls → vx_W p l e R s m args below meth c H1 locs1 (cells + mc) (slots + ms) Q (F0 m pc ls rest) q9)
    (kk : ∀ (r : UInt64) (u : S) (t : State) (H1 : Heap) (locs1 : List Loc), t.heap = H1 → s.vm.Alike t.vm → post r u → B u t → H.size ≤ H1.size → (∀ q : Nat, q < H.size → ¬ A1 q → H1[q]? = H[q]?) → va_S A0 H0 H1 locs1 → W p l e R s m args below meth c H1 locs1 (cells + mc) (slots + ms) Q (F0 m (pc + 3) ls (.double r :: rest))) : W p l e R s m args below meth c H locs cells slots Q (F0 m pc ls st0) := by
  intro T hT X
  rcases hr T hT X with ⟨v, st₀, t, T', L, h0, X', hL, e1, e2, ⟨⟨r, u, hv, hp, hb⟩, hF⟩, st⟩ | ⟨q, st₀, t, T', L, E, ce, h0, X', hL, e1, e2, ⟨u, hp, hb, hF⟩, hce, hcv, hcl, st⟩
  · cases hv
    obtain ⟨k1, k2, k3⟩ := vx_keep h0 e1 hS hA hf hL hF
    obtain ⟨t2, a1, b1⟩ := kk r u t T'.heap (locs ++ L) e1.symm (by rw [← e2]; exact X'.warmed.alike) hp hb k1 k2 k3 T' rfl X'
    exact ⟨t2, st t2 a1, b1⟩
  · obtain ⟨k1, k2, k3⟩ := vx_keep h0 e1 hS hAX hf hL hF
    obtain ⟨t2, a1, b1⟩ := kx E ce q u t T'.heap (locs ++ L) e1.symm (by rw [← e2]; exact X'.warmed.alike) hp hb k1 k2 k3 (by rw [e1]; exact hce) hcv hcl T' rfl X'
    exact ⟨t2, st.trans a1, b1⟩
theorem vx_callv {S SX : Type} {post : S → Prop} {px : SX → Prop} {B : S → State → Prop} {BX : String → SX → State → Prop} {AX : Nat → Prop} (hr : vx_Run p l e R s m args below meth c H locs cells slots mc ms (F0 m pc ls st0) rest (va_Qv post B A1 a) (vx_X px BX AX) free) (hS : va_S A0 H0 H locs) (hA : ∀ q, q < H.size → A1 q → A0 q) (hf : ∀ q, free q → A0 q) (hAX : ∀ q, q < H.size → AX q → A0 q)
    (kx : ∀ (E : String) (ce : Cell) (q9 : Addr) (u : SX) (t : State) (H1 : Heap) (locs1 : List Loc), t.heap = H1 → s.vm.Alike t.vm → px u → BX E u t → H.size ≤ H1.size → (∀ q : Nat, q < H.size → ¬ AX q → H1[q]? = H[q]?) → va_S A0 H0 H1 locs1 → H1[q9]? = some ce → ce.vm = .none → s.vm.findClass E = some ce.cls → vx_W p l e R s m args below meth c H1 locs1 (cells + mc) (slots + ms) Q (F0 m pc ls rest) q9)
    (kk : ∀ (u : S) (t : State) (H1 : Heap) (locs1 : List Loc), t.heap = H1 → s.vm.Alike t.vm → post u → B u t → H.size ≤ H1.size → (∀ q : Nat, q < H.size → ¬ A1 q → H1[q]? = H[q]?) → va_S A0 H0 H1 locs1 → W p l e R s m args below meth c H1 locs1 (cells + mc) (slots + ms) Q (F0 m (pc + 3) ls (rest))) : W p l e R s m args below meth c H locs cells slots Q (F0 m pc ls st0) := by
  intro T hT X
  rcases hr T hT X with ⟨v, st₀, t, T', L, h0, X', hL, e1, e2, ⟨⟨u, hv, hp, hb⟩, hF⟩, st⟩ | ⟨q, st₀, t, T', L, E, ce, h0, X', hL, e1, e2, ⟨u, hp, hb, hF⟩, hce, hcv, hcl, st⟩
  · cases hv
    obtain ⟨k1, k2, k3⟩ := vx_keep h0 e1 hS hA hf hL hF
    obtain ⟨t2, a1, b1⟩ := kk u t T'.heap (locs ++ L) e1.symm (by rw [← e2]; exact X'.warmed.alike) hp hb k1 k2 k3 T' rfl X'
    exact ⟨t2, st t2 a1, b1⟩
  · obtain ⟨k1, k2, k3⟩ := vx_keep h0 e1 hS hAX hf hL hF
    obtain ⟨t2, a1, b1⟩ := kx E ce q u t T'.heap (locs ++ L) e1.symm (by rw [← e2]; exact X'.warmed.alike) hp hb k1 k2 k3 (by rw [e1]; exact hce) hcv hcl T' rfl X'
    exact ⟨t2, st.trans a1, b1⟩
/-- caught by the row x of this method's table; the rows ahead don't take it -/
theorem vx_catch {own name : String} {E : String} {ce : Cell} {q : Addr} (hown : s.vm.findClass own = some m.cls) (pre : List ExceptionTableEntry) (x : ExceptionTableEntry) (suf : List ExceptionTableEntry) (hsplit : c.exceptionTable.toList = pre ++ x :: suf)
    (hpass : ∀ z ∈ pre, covers z pc = false ∨ (z.catchType ≠ 0 ∧ ∃ nm : String, (Cond.classLink own z.catchType nm).before args s = true ∧ va_Nc E nm s)) (hx : covers x pc = true) (h0 : x.catchType ≠ 0)
    (hlink : (Cond.classLink own x.catchType name).before args s = true) (hcast : (Cond.castable E name).before args s = true) (hcell : H[q]? = some ce) (hv : ce.vm = .none) (hcl : s.vm.findClass E = some ce.cls)
    (kk : W p l e R s m args below meth c H locs cells slots Q (F0 m x.handlerPc ls [.ref q])) : vx_W p l e R s m args below meth c H locs cells slots Q (F0 m pc ls rest) q := by
  intro T hT X
  have hpl : e.platform.magicAccessors = ({} : Platform).magicAccessors := by rw [X.admits.platform]
  obtain ⟨c3, c4, hc3, hc4, hasg⟩ := Cond.castable_spec hcast
  cases Option.some.inj (hc3.symm.trans hcl)
  obtain ⟨c5, hc5, hcl5⟩ := Cond.classLink_spec hown hlink e.platform hpl
  cases Option.some.inj (hc4.symm.trans hc5)
  obtain ⟨vm', X', st⟩ := X.thenCaughtThrough q (g := F0 m pc ls rest) rfl (Steps.refl _) (by rw [hT]; exact hcell) (by rw [hv]; rfl) (by obtain ⟨k9, h9, -⟩ := Vm.findClass_spec hcl; exact ⟨k9, h9⟩) pre x suf hsplit
    (fun z hz => by
      rcases hpass z hz with h | ⟨hz0, nm, hl1, hn1⟩
      · exact Or.inl h
      · obtain ⟨c6, hc6, hcl6⟩ := Cond.classLink_spec hown hl1 e.platform hpl
        obtain ⟨a8, b8, h1, h2, h3⟩ := hn1
        cases Option.some.inj (h1.symm.trans hcl)
        cases Option.some.inj (h2.symm.trans hc6)
        exact Or.inr ⟨hz0, _, hcl6, h3⟩) hx (Or.inr ⟨h0, c4, hcl5, hasg⟩)
  obtain ⟨t, a1, b1⟩ := kk (T.setVm vm') hT X'
  exact ⟨t, st.trans a1, b1⟩
end Rows
section Ends
variable {p : Program} {l : Launch} {e : Env} {R : Room} {s : State} {m : MethodId} {args : Array Value} {below : List Frame} {meth : Method} {c : Code} {H : Heap} {locs : List Loc} {cells slots : Nat} {Q : State → Prop}
variable {mc ms : Nat} {free : Addr → Prop} {A0 A1 : Nat → Prop} {H0 : Heap} {a : Array Value} {ls : Array Slot} {st0 rest : List Value}
variable {Qc : Array Value → State → Outcome → State → Prop} {XC : String → State → State → Prop}
/-- what a body that may throw owes at its end -/
def vx_MQ (below : List Frame) (Qc : Array Value → State → Outcome → State → Prop) (XC : String → State → State → Prop) (a : Array Value) (s : State) (mc ms : Nat) (free : Addr → Prop) : State → Prop := fun t =>
  ∃ o, t.status = .running ∧ Ended t below o ∧ vx_Q Qc XC mc ms free a s o t
theorem vx_ret {g : JFrame} {mc ms : Nat} (k : W p l e R s m args below meth c H locs cells slots (MQ below Qc args s mc ms free) g) : W p l e R s m args below meth c H locs cells slots (vx_MQ below Qc XC args s mc ms free) g := by
  intro T hT X
  obtain ⟨t, a1, o, b1, b2, b3, b4⟩ := k T hT X
  exact ⟨t, a1, o, b1, b2, Or.inl ⟨b3, b4⟩⟩
/-- not caught here: it goes on to the caller -/
theorem vx_widen {g : JFrame} {q : Addr} {k n : Nat} (h1 : cells ≤ k) (h2 : slots ≤ n) (kk : vx_W p l e R s m args below meth c H locs k n Q g q) : vx_W p l e R s m args below meth c H locs cells slots Q g q := fun T hT X => kk T hT (stand_widen X h1 h2)
theorem vx_out {pc : Nat} {E : String} {ce : Cell} {q : Addr} {mc ms : Nat} (hout : ∀ x ∈ c.exceptionTable.toList, covers x pc = false) (hlocks : meth.locks = false) (hcell : H[q]? = some ce) (hv : ce.vm = .none) (hcl : s.vm.findClass E = some ce.cls)
    (hx : ∀ t : State, t.heap = H → s.vm.Alike t.vm → XC E s t) (hf : ∀ z ∈ locs, free z.base) (hc : cells ≤ mc) (hs : slots ≤ ms) :
    vx_W p l e R s m args below meth c H locs cells slots (vx_MQ below Qc XC args s mc ms free) (F0 m pc ls rest) q := by
  intro T hT X
  obtain ⟨st1, hrun, hend, hW, hsm⟩ := X.leaveThrown q (g := F0 m pc ls rest) rfl rfl rfl hout hlocks
  have hcell9 : (T.setFrames (.throwing q :: below)).heap[q]? = some ce := by
    show T.heap[q]? = some ce
    rw [hT]; exact hcell
  exact ⟨_, st1, .threw q, hrun, hend, Or.inr ⟨q, rfl, E, ce, locs, hx _ hT hW.alike, hcell9, hv, hcl, hW, hsm.mono hc hs, hf⟩⟩
theorem vx_frame {U : State} {k n : Nat} (h : s.sameButNew ({ U with vm := s.vm } : State) locs k n) : s.heap.size ≤ U.heap.size ∧ ∀ q : Nat, q < s.heap.size → (∀ z ∈ locs, z.base ≠ q) → U.heap[q]? = s.heap[q]? := by
  obtain ⟨-, h2, -, -, -, h6⟩ := h
  refine ⟨h2, fun q hq hz => ?_⟩
  obtain ⟨c9, e1, e2, e3, e4⟩ := h6 q _ (Array.getElem?_eq_getElem hq)
  have hs : c9.slots = (s.heap[q]).slots := Array.ext_getElem? fun i => e4 i fun hm => hz _ hm rfl
  have h9 : c9 = s.heap[q] := by
    rw [hs] at e2
    exact e2
  have e5 : U.heap[q]? = some c9 := e1
  rw [e5, h9, Array.getElem?_eq_getElem hq]
/-- the words of a throw but the four that speak of the heap -/
def vx_no (w : Cond) : Bool := decide (w ≠ .isRef (.static Bundle.tN "UNASSIGNED_STACK" Bundle.steD)) && decide (w ≠ .isRef (.static Bundle.tN "SUPPRESSED_SENTINEL" Bundle.listD)) && decide (w ≠ .laysStatic Bundle.tN "UNASSIGNED_STACK" Bundle.steD) && decide (w ≠ .laysStatic Bundle.tN "SUPPRESSED_SENTINEL" Bundle.listD)
def vx_at0 (own : String) (ic : Nat) (X : String) (names : List String) : List Cond := (Bundle.ownAtoms0 own ic X names).filter vx_no
def vx_atS (own : String) (ic : Nat) (X : String) (names : List String) : List Cond := (Bundle.ownAtoms own ic X names).filter vx_no
/-- a word that the tables alone decide, or a good one -/
def vx_ot (w : Cond) : Bool := w.onTables || goodWord w
theorem vx_ot_at {args a' : Array Value} {s U : State} {w : Cond} (hW : s.WarmedH U.vm) (hvm : s.vm = U.vm) (hg : vx_ot w = true) (h : w.before args s = true) : w.before a' U = true := by
  simp only [vx_ot, Bool.or_eq_true] at hg
  rcases hg with hg | hg
  · exact va_tabs hg hvm h
  · exact word_at hW (good_of_word hg) h
/-- a list's words: the good ones out of the method's own list, the others by premises of their own -/
theorem vx_hat {args : Array Value} {s : State} {L B : List Cond} (h1 : ∀ w ∈ L.filter goodWord, w.before args s = true) (h2 : ∀ w ∈ L.filter (fun w => !goodWord w), w ∈ B) (h3 : ∀ w ∈ B, w.before args s = true) : ∀ w ∈ L, w.before args s = true := by
  intro w hw
  by_cases g : goodWord w = true
  · exact h1 w (List.mem_filter.mpr ⟨hw, g⟩)
  · refine h3 w (h2 w (List.mem_filter.mpr ⟨hw, ?_⟩))
    show (!goodWord w) = true
    cases hgw : goodWord w
    · rfl
    · exact absurd hgw g
theorem vx_c {args : Array Value} {s : State} {w : Cond} {B : List Cond} (h : w.before args s = true) (t : ∀ w ∈ B, w.before args s = true) : ∀ w' ∈ w :: B, w'.before args s = true := fun w' h' => (List.mem_cons.mp h').elim (fun e => by rw [e]; exact h) (t w')
theorem vx_n {args : Array Value} {s : State} : ∀ w ∈ ([] : List Cond), w.before args s = true := fun _ h => nomatch h
theorem vx_own {args : Array Value} {s : State} {L : List Cond} (h1 : ∀ w ∈ L.filter vx_no, w.before args s = true)
    (hU : (Cond.isRef (.static Bundle.tN "UNASSIGNED_STACK" Bundle.steD)).before args s = true) (hN : (Cond.isRef (.static Bundle.tN "SUPPRESSED_SENTINEL" Bundle.listD)).before args s = true)
    (lU : (Cond.laysStatic Bundle.tN "UNASSIGNED_STACK" Bundle.steD).before args s = true) (lN : (Cond.laysStatic Bundle.tN "SUPPRESSED_SENTINEL" Bundle.listD).before args s = true) : ∀ w ∈ L, w.before args s = true := by
  intro w hw
  by_cases e1 : w = .isRef (.static Bundle.tN "UNASSIGNED_STACK" Bundle.steD)
  · rw [e1]; exact hU
  · by_cases e2 : w = .isRef (.static Bundle.tN "SUPPRESSED_SENTINEL" Bundle.listD)
    · rw [e2]; exact hN
    · by_cases e3 : w = .laysStatic Bundle.tN "UNASSIGNED_STACK" Bundle.steD
      · rw [e3]; exact lU
      · by_cases e4 : w = .laysStatic Bundle.tN "SUPPRESSED_SENTINEL" Bundle.listD
        · rw [e4]; exact lN
        · exact h1 w (List.mem_filter.mpr ⟨hw, by unfold vx_no; rw [decide_eq_true e1, decide_eq_true e2, decide_eq_true e3, decide_eq_true e4]; rfl⟩)
/-- where a static field lies, its class's statics cell in H -/
def vx_L (C n d : String) (A : Nat → Prop) (U : State) (H : Heap) : Prop := ∃ (c : ClassId) (k : Class) (i : Nat) (f : Field) (a : Nat) (cell : Cell), U.vm.findClass C = some c ∧ U.fieldFound? C n d = some (c, k, i, f) ∧ f.isStatic = true ∧ k.statics = some a ∧ H[a]? = some cell ∧ cell.vm.isStatics = true ∧ cell.cls = c ∧ f.slot < cell.slots.size ∧ k.staticTypes[f.slot]? = some f.type ∧ ¬ A a
theorem vx_L.moved {C n d : String} {A : Nat → Prop} {u U : State} {H : Heap} (hvm : u.vm.Alike U.vm) (h : vx_L C n d A u H) : vx_L C n d A U H := by
  obtain ⟨c, k, i, f, a, cell, h1, h2, h3, h4, h5, h6, h7, h8, h9, h10⟩ := h
  obtain ⟨k', hi', he⟩ := State.fieldFound?_setVm hvm h2
  exact ⟨c, k', i, f, a, cell, by rw [hvm.findClass]; exact h1, hi', h3, by rw [he]; exact h4, h5, h6, h7, h8, by rw [he]; exact h9, h10⟩
theorem vx_L.kept {C n d : String} {A : Nat → Prop} {U : State} {H H1 : Heap} (h : vx_L C n d A U H) (hq : ∀ a : Nat, a < H.size → ¬ A a → H1[a]? = H[a]?) : vx_L C n d A U H1 := by
  obtain ⟨c, k, i, f, a, cell, h1, h2, h3, h4, h5, h6, h7, h8, h9, h10⟩ := h
  exact ⟨c, k, i, f, a, cell, h1, h2, h3, h4, by rw [hq a (Array.getElem?_eq_some_iff.mp h5).1 h10]; exact h5, h6, h7, h8, h9, h10⟩
theorem vx_L.narrow {C n d : String} {A B : Nat → Prop} {U : State} {H : Heap} (h : vx_L C n d A U H) (hAB : ∀ q, B q → A q) : vx_L C n d B U H := by
  obtain ⟨c, k, i, f, a, cell, h1, h2, h3, h4, h5, h6, h7, h8, h9, h10⟩ := h
  exact ⟨c, k, i, f, a, cell, h1, h2, h3, h4, h5, h6, h7, h8, h9, fun z => h10 (hAB _ z)⟩
theorem vx_L.word {C n d : String} {A : Nat → Prop} {s : State} {args : Array Value} (h : vx_L C n d A s s.heap) : (Cond.laysStatic C n d).before args s = true := by
  obtain ⟨c, k, i, f, a, cell, h1, h2, h3, h4, h5, h6, h7, h8, h9, -⟩ := h
  show (Cond.laysStatic C n d).holds args s none s [] = true
  exact Cond.laysStatic_of h1 h2 h3 h4 h5 h6 h7 h8 h9
/-- .. and what it holds: null or some reference -/
def vx_Zq (C n d : String) (A : Nat → Prop) (U : State) (H : Heap) : Prop := va_Zq C n d A U H ∧ vx_L C n d A U H
theorem vx_Zq.moved {C n d : String} {A : Nat → Prop} {u U : State} {H : Heap} (hvm : u.vm.Alike U.vm) (h : vx_Zq C n d A u H) : vx_Zq C n d A U H := ⟨va_Zq.moved hvm h.1, vx_L.moved hvm h.2⟩
theorem vx_Zq.kept {C n d : String} {A : Nat → Prop} {U : State} {H H1 : Heap} (h : vx_Zq C n d A U H) (hq : ∀ a : Nat, a < H.size → ¬ A a → H1[a]? = H[a]?) : vx_Zq C n d A U H1 := ⟨va_Zq.kept h.1 hq, vx_L.kept h.2 hq⟩
theorem vx_Zq.narrow {C n d : String} {A B : Nat → Prop} {U : State} {H : Heap} (h : vx_Zq C n d A U H) (hAB : ∀ q, B q → A q) : vx_Zq C n d B U H := ⟨va_Zq.narrow h.1 hAB, vx_L.narrow h.2 hAB⟩
theorem vx_Zqof {args : Array Value} {s : State} {C n d : String} {A : Nat → Prop} (hl : (Cond.laysStatic C n d).before args s = true) (hini : (Cond.initialized C).before args s = true) (h : (Cond.isRef (.static C n d)).before args s = true) (hA : ∀ a : Nat, a < s.heap.size → ¬ A a) : vx_Zq C n d A s s.heap := by
  refine ⟨va_Zqof hl hini h hA, ?_⟩
  obtain ⟨c, k, i, f, a, cell, h1, h2, h3, h4, h5, h6, h7, h8, h9⟩ := Cond.laysStatic_spec hl
  exact ⟨c, k, i, f, a, cell, h1, h2, h3, h4, h5, h6, h7, h8, h9, hA a (Array.getElem?_eq_some_iff.mp h5).1⟩
theorem vx_isRef {C n d : String} {v : Value} {A : Nat → Prop} {s : State} {args : Array Value} (h : va_Z C n d v A s s.heap) (hv : v.isRef = true) : (Cond.isRef (.static C n d)).before args s = true := by
  obtain ⟨cf, kf, fi, f, a, cell, h1, h2, h3, h4, h5, h6, h7, -⟩ := h
  have he : (Term.static C n d).eval args s none [] s = some v := by
    simp [Term.eval, State.fieldNamed?, h1, h2, h4, h5, h6, h7]
  simp only [Cond.before, Cond.holds, Cond.value, he]
  cases v <;> simp_all [Value.isRef]
theorem vx_isRefq {C n d : String} {A : Nat → Prop} {s : State} {args : Array Value} (h : va_Zq C n d A s s.heap) : (Cond.isRef (.static C n d)).before args s = true := by
  rcases h with h | ⟨t, h⟩
  · exact vx_isRef h rfl
  · exact vx_isRef h rfl
/-- the same frame, seen from here: as if the method were called anew in this heap -/
theorem vx_rebase {T : State} (X : Stand p l e R s m args below meth c T locs cells slots) {R' : Room} (hf : R'.frames ≤ R.frames) (hl : R'.locals ≤ R.locals) (hc : cells + R'.cells ≤ R.cells) (hs : slots + R'.slots ≤ R.slots) :
    Stand p l e R' ((T.setVm s.vm).setFrames (.invoking m args :: below)) m args below meth c T [] 0 0 := by
  have htop : (T.setVm s.vm).topJava?.isSome := X.here.top
  have hF : ((T.setVm s.vm).setFrames (.invoking m args :: below)).frames = .invoking m args :: below := State.frames_setFrames _ (State.cur_lt_of_top htop)
  obtain ⟨g₀, hg0⟩ := Option.isSome_iff_exists.mp htop
  obtain ⟨r, hr⟩ := State.topJava?_eq_some.mp hg0
  have hl9 : e.platform.stackLimits (T.setVm s.vm).me = e.platform.stackLimits s.me := X.limits
  have hb9 : (T.setVm s.vm).me.stackBytes = s.me.stackBytes := X.bytes
  refine ⟨X.admits, X.cas, X.clock, hF, ?_, X.hears, X.method, X.code, X.here, X.tail, X.warmed, ?_, ?_, ?_⟩
  · have h := X.room
    have hU : ((T.setVm s.vm).setFrames (.invoking m args :: below)).localsInUse = s.localsInUse := by
      rw [State.localsInUse_invoking hF (meth := meth) (c := c) X.method X.code, State.localsInUse_invoking X.frames X.method X.code]
    simp only [State.hasRoom, Bool.and_eq_true, decide_eq_true_eq] at h ⊢
    obtain ⟨⟨⟨⟨h1, h2, h3, h4, h5, h6⟩, h7⟩, h8⟩, h9⟩ := h
    rw [X.frames, List.length_cons] at h2 h3
    have q1 := X.heapSize
    have q2 := X.used
    simp only [hF, hU, List.length_cons, State.stackLimits_setFrames, State.stackBytes_setFrames, hl9, hb9]
    refine ⟨⟨⟨⟨by omega, by omega, by omega, by omega, by omega, h6⟩, ?_⟩, ?_⟩, X.book⟩
    · show T.heap.size + R'.cells ≤ e.platform.maxCells
      omega
    · show T.slotsUsed + R'.slots ≤ e.platform.maxSlots
      omega
  · rw [State.stackLimits_setFrames]; rfl
  · rw [State.stackBytes_setFrames]; rfl
  · refine ⟨?_, Nat.le_refl _, Nat.le_refl _, ?_, ?_, fun a c9 h9 => ⟨c9, h9, rfl, rfl, fun _ _ => rfl⟩⟩
    · obtain ⟨t, ht, -⟩ := State.frames_cons hr
      show T.setVm s.vm = { ((T.setVm s.vm).setFrames (.invoking m args :: below)).setFrames (T.setVm s.vm).frames with heap := T.heap, slotsUsed := T.slotsUsed }
      rw [State.setFrames_setFrames, State.setFrames_self ht]
      rfl
    · show T.slotsUsed = T.slotsUsed + ((T.heap.toList.drop T.heap.size).map (·.slots.size)).sum
      rw [List.drop_eq_nil_of_le (Nat.le_of_eq Array.length_toList)]
      rfl
    · show ((T.heap.toList.drop T.heap.size).map (·.slots.size)).sum ≤ 0
      rw [List.drop_eq_nil_of_le (Nat.le_of_eq Array.length_toList)]
      exact Nat.le_refl _
/-- 'throw new E()': new; dup; invokespecial; athrow -/
theorem vx_throw0 {cc : ByteArray} {pc : Nat} (hexec : p.tables.exec = Jvm.exec) (hb : c.code = cc) (hl : l.stackTraces = false) {own cls : String} {names : List String} {ik ic mc ms : Nat} {A : Nat → Prop}
    (hown : s.vm.findClass own = some m.cls) (hcls : Bundle.fit cls = true) (hnames : ∀ n ∈ names, Bundle.fit n = true)
    (hk : (Cond.classLink own ik cls).before args s = true) (hini : (Cond.initialized cls).before args s = true) (hat : ∀ w ∈ vx_at0 own ic cls names, w.before args s = true)
    (hgood : ∀ w ∈ Cond.classLink own ik cls :: Cond.initialized cls :: vx_at0 own ic cls names, vx_ot w = true)
    (hU : vx_Zq Bundle.tN "UNASSIGNED_STACK" Bundle.steD A s s.heap) (hN : vx_Zq Bundle.tN "SUPPRESSED_SENTINEL" Bundle.listD A s s.heap) (hS : va_S A s.heap H locs) (hsize : ls.size = c.maxLocals)
    (d0 : decode cc pc = .ok (.new ik, 3)) (d3 : decode cc (pc + 3) = .ok (.dup, 1)) (d4 : decode cc (pc + 4) = .ok (.invokespecial ic, 3)) (d7 : decode cc (pc + 7) = .ok (.athrow, 1))
    (hout : ∀ x ∈ c.exceptionTable.toList, covers x (pc + 7) = false)
    (hRframes : names.length + 3 < R.frames) (hRlocals : (rest.map fun v => v.category).sum + (13 * (names.length + 1) + 42) ≤ R.locals) (hRcells : cells + 1 ≤ R.cells) (hRslots : slots + 6 ≤ R.slots) (hlocks : meth.locks = false)
    (hx : ∀ t : State, s.vm.Alike t.vm → H.size ≤ t.heap.size → (∀ q : Nat, q < H.size → t.heap[q]? = H[q]?) → XC cls s t)
    (hf : ∀ z ∈ locs, free z.base) (hc : cells + 1 ≤ mc) (hs : slots + 6 ≤ ms) :
    W p l e R s m args below meth c H locs cells slots (vx_MQ below Qc XC args s mc ms free) (F0 m pc ls rest) := by
  intro T hT X
  have htr : e.platform.stackTraces = false := (show e.platform.stackTraces = l.stackTraces by rw [X.admits.platform]).trans hl
  have Y := vx_rebase X (R' := { frames := R.frames, locals := R.locals, cells := 1, slots := 6 }) (Nat.le_refl _) (Nat.le_refl _) hRcells hRslots
  obtain ⟨s', hA⟩ : ∃ z, z = (T.setVm s.vm).setFrames (.invoking m args :: below) := ⟨_, rfl⟩
  rw [← hA] at Y
  have hvm : s'.vm = s.vm := by rw [hA]; rfl
  have hhp : s'.heap = H := by rw [hA]; exact hT
  have hW0 : s.WarmedH s'.vm := by rw [hvm]; exact State.WarmedH.refl s
  have hat' : ∀ w ∈ vx_at0 own ic cls names, w.before args s' = true := fun w hw => vx_ot_at hW0 hvm.symm (hgood w (List.mem_cons_of_mem _ (List.mem_cons_of_mem _ hw))) (hat w hw)
  have hk' : (Cond.classLink own ik cls).before args s' = true := vx_ot_at hW0 hvm.symm (hgood _ List.mem_cons_self) hk
  have hini' : (Cond.initialized cls).before args s' = true := vx_ot_at hW0 hvm.symm (hgood _ (List.mem_cons_of_mem _ List.mem_cons_self)) hini
  have hU' : vx_Zq Bundle.tN "UNASSIGNED_STACK" Bundle.steD A s' s'.heap := by rw [hhp]; exact vx_Zq.moved hW0.alike (hU.kept hS.2.1)
  have hN' : vx_Zq Bundle.tN "SUPPRESSED_SENTINEL" Bundle.listD A s' s'.heap := by rw [hhp]; exact vx_Zq.moved hW0.alike (hN.kept hS.2.1)
  have h : ∀ w ∈ Bundle.ownAtoms0 own ic cls names, w.before args s' = true := vx_own hat' (vx_isRefq hU'.1) (vx_isRefq hN'.1) hU'.2.word hN'.2.word
  have hown' : s'.vm.findClass own = some m.cls := by rw [hvm]; exact hown
  have hins : (Cond.instantiable cls 6).before args s' = true := h _ (by simp [Bundle.ownAtoms0])
  obtain ⟨vm₁, cX, kX, hfX, hkX, -, -, X₁, st1⟩ := Y.newCold hexec (own := own) (C := cls) (index := ik) (n := 6) hown' hk' hins hini'
    (g := F0 m pc ls rest) rfl (by rw [hb]; exact d0) (Nat.le_refl _) (Nat.le_refl _)
  generalize hT1 : (T.setVm vm₁).pushCell { cls := cX, slots := kX.instanceTypes.map defaultValue, vm := .none } = T1 at X₁ st1
  have hcat : (Value.ref T.heap.size).category = 1 := rfl
  have hcellA : T1.heap[T.heap.size]? = some (freshCell cX kX) := by rw [← hT1]; exact State.heap_pushCell_size _ _
  have d3' : decode c.code (pc + 3) = .ok (.dup, 1) := by rw [hb]; exact d3
  obtain ⟨U, hsteps, hrun, hend, hW, hsame, ce, hce, hO⟩ := X₁.ctorThrow0 hexec htr (own := own) (cls := cls) (names := names) (ic := ic) hown' hcls hnames h (fun x hx => nomatch hx) hfX hkX hcellA (by rw [hhp, hT]; exact Nat.le_refl _)
    (g := { method := m, pc := pc + 4, locals := ls, stack := .ref T.heap.size :: .ref T.heap.size :: rest, locked := none }) rfl hsize rfl rfl (rest := rest) rfl
    (by rw [hb]; exact d4) (by rw [hb]; exact d7) hout hRframes (by simp only [List.map_cons, List.sum_cons, hcat]; omega) hlocks
  obtain ⟨f1, f2⟩ := vx_frame hsame
  rw [hhp] at f1 f2
  have hWs : s.WarmedH U.vm := State.WarmedH.trans hW0 hW
  have hcl : s.vm.findClass cls = some ce.cls := by
    have h9 := hO.cls
    rw [hvm] at h9
    exact h9
  have hall : s.sameButNew ({ U with vm := s.vm } : State) locs mc ms := by
    subst hA
    obtain ⟨e1, e2⟩ := hsame
    rw [State.setFrames_setFrames] at e1
    have h2 : (T.setVm s.vm).sameButNew ({ U with vm := s.vm } : State) [] (0 + 1) (0 + 6) := ⟨e1, e2⟩
    have h3 := X.same.trans h2
    rw [List.append_nil] at h3
    exact h3.mono hc hs
  refine ⟨U, ?_, .threw T.heap.size, hrun, hend, Or.inr ⟨T.heap.size, rfl, cls, ce, locs, hx U hWs.alike f1 (fun q hq => f2 q hq (fun z hz => nomatch hz)), hce, hO.vm, hcl, hWs, hall, hf⟩⟩
  refine st1 _ ?_
  show Steps p.tables e below (T1.setTop { method := m, pc := pc + 3, locals := ls, stack := .ref T.heap.size :: rest, locked := none }) _
  jvm_step X₁.here [X₁.here.top, hexec, d3', Value.category]
  exact hsteps
/-- 'throw new E("text")': new; dup; ldc; invokespecial; athrow -/
theorem vx_throwS {cc : ByteArray} {pc : Nat} (hexec : p.tables.exec = Jvm.exec) (hb : c.code = cc) (hl : l.stackTraces = false) {own cls text : String} {names : List String} {ik is ic mc ms sa : Nat} {A : Nat → Prop}
    (hown : s.vm.findClass own = some m.cls) (hcls : Bundle.fit cls = true) (hnames : ∀ n ∈ names, Bundle.fit n = true)
    (hk : (Cond.classLink own ik cls).before args s = true) (hini : (Cond.initialized cls).before args s = true) (hstr : vk_R own is text sa s) (hat : ∀ w ∈ vx_atS own ic cls names, w.before args s = true)
    (hgood : ∀ w ∈ Cond.classLink own ik cls :: Cond.initialized cls :: vx_atS own ic cls names, vx_ot w = true)
    (hU : vx_Zq Bundle.tN "UNASSIGNED_STACK" Bundle.steD A s s.heap) (hN : vx_Zq Bundle.tN "SUPPRESSED_SENTINEL" Bundle.listD A s s.heap) (hS : va_S A s.heap H locs) (hsize : ls.size = c.maxLocals)
    (d0 : decode cc pc = .ok (.new ik, 3)) (d3 : decode cc (pc + 3) = .ok (.dup, 1)) (d4 : decode cc (pc + 4) = .ok (.ldc is, 2)) (d6 : decode cc (pc + 6) = .ok (.invokespecial ic, 3)) (d9 : decode cc (pc + 9) = .ok (.athrow, 1))
    (hout : ∀ x ∈ c.exceptionTable.toList, covers x (pc + 9) = false)
    (hRframes : names.length + 3 < R.frames) (hRlocals : (rest.map fun v => v.category).sum + (13 * (names.length + 1) + 43) ≤ R.locals) (hRcells : cells + 1 ≤ R.cells) (hRslots : slots + 6 ≤ R.slots) (hlocks : meth.locks = false)
    (hx : ∀ t : State, s.vm.Alike t.vm → H.size ≤ t.heap.size → (∀ q : Nat, q < H.size → t.heap[q]? = H[q]?) → XC cls s t)
    (hf : ∀ z ∈ locs, free z.base) (hc : cells + 1 ≤ mc) (hs : slots + 6 ≤ ms) :
    W p l e R s m args below meth c H locs cells slots (vx_MQ below Qc XC args s mc ms free) (F0 m pc ls rest) := by
  intro T hT X
  have htr : e.platform.stackTraces = false := (show e.platform.stackTraces = l.stackTraces by rw [X.admits.platform]).trans hl
  have Y := vx_rebase X (R' := { frames := R.frames, locals := R.locals, cells := 1, slots := 6 }) (Nat.le_refl _) (Nat.le_refl _) hRcells hRslots
  obtain ⟨s', hA⟩ : ∃ z, z = (T.setVm s.vm).setFrames (.invoking m args :: below) := ⟨_, rfl⟩
  rw [← hA] at Y
  have hvm : s'.vm = s.vm := by rw [hA]; rfl
  have hhp : s'.heap = H := by rw [hA]; exact hT
  have hW0 : s.WarmedH s'.vm := by rw [hvm]; exact State.WarmedH.refl s
  have hat' : ∀ w ∈ vx_atS own ic cls names, w.before args s' = true := fun w hw => vx_ot_at hW0 hvm.symm (hgood w (List.mem_cons_of_mem _ (List.mem_cons_of_mem _ hw))) (hat w hw)
  have hk' : (Cond.classLink own ik cls).before args s' = true := vx_ot_at hW0 hvm.symm (hgood _ List.mem_cons_self) hk
  have hini' : (Cond.initialized cls).before args s' = true := vx_ot_at hW0 hvm.symm (hgood _ (List.mem_cons_of_mem _ List.mem_cons_self)) hini
  have hU' : vx_Zq Bundle.tN "UNASSIGNED_STACK" Bundle.steD A s' s'.heap := by rw [hhp]; exact vx_Zq.moved hW0.alike (hU.kept hS.2.1)
  have hN' : vx_Zq Bundle.tN "SUPPRESSED_SENTINEL" Bundle.listD A s' s'.heap := by rw [hhp]; exact vx_Zq.moved hW0.alike (hN.kept hS.2.1)
  have h : ∀ w ∈ Bundle.ownAtoms own ic cls names, w.before args s' = true := vx_own hat' (vx_isRefq hU'.1) (vx_isRefq hN'.1) hU'.2.word hN'.2.word
  have hown' : s'.vm.findClass own = some m.cls := by rw [hvm]; exact hown
  have hins : (Cond.instantiable cls 6).before args s' = true := h _ (by simp [Bundle.ownAtoms])
  obtain ⟨vm₁, cX, kX, hfX, hkX, -, -, X₁, st1⟩ := Y.newCold hexec (own := own) (C := cls) (index := ik) (n := 6) hown' hk' hins hini'
    (g := F0 m pc ls rest) rfl (by rw [hb]; exact d0) (Nat.le_refl _) (Nat.le_refl _)
  generalize hT1 : (T.setVm vm₁).pushCell { cls := cX, slots := kX.instanceTypes.map defaultValue, vm := .none } = T1 at X₁ st1
  have hcat : (Value.ref T.heap.size).category = 1 := rfl
  have hcellA : T1.heap[T.heap.size]? = some (freshCell cX kX) := by rw [← hT1]; exact State.heap_pushCell_size _ _
  have d3' : decode c.code (pc + 3) = .ok (.dup, 1) := by rw [hb]; exact d3
  have d4' : decode c.code (pc + 4) = .ok (.ldc is, 2) := by rw [hb]; exact d4
  have hstr' : vk_R own is text sa s' := vk_R.warm hW0 hstr
  obtain ⟨U, hsteps, hrun, hend, hW, hsame, ce, hce, hO⟩ := X₁.ctorThrowS hexec htr (own := own) (cls := cls) (names := names) (ic := ic) hown' hcls hnames h (fun x hx => nomatch hx) hfX hkX hcellA (by rw [hhp, hT]; exact Nat.le_refl _) (msg := .ref sa) rfl
    (g := { method := m, pc := pc + 6, locals := ls, stack := .ref sa :: .ref T.heap.size :: .ref T.heap.size :: rest, locked := none }) rfl hsize rfl rfl (rest := rest) rfl
    (by rw [hb]; exact d6) (by rw [hb]; exact d9) hout hRframes (by simp only [List.map_cons, List.sum_cons, hcat]; omega) hlocks
  obtain ⟨f1, f2⟩ := vx_frame hsame
  rw [hhp] at f1 f2
  have hWs : s.WarmedH U.vm := State.WarmedH.trans hW0 hW
  have hcl : s.vm.findClass cls = some ce.cls := by
    have h9 := hO.cls
    rw [hvm] at h9
    exact h9
  have hall : s.sameButNew ({ U with vm := s.vm } : State) locs mc ms := by
    subst hA
    obtain ⟨e1, e2⟩ := hsame
    rw [State.setFrames_setFrames] at e1
    have h2 : (T.setVm s.vm).sameButNew ({ U with vm := s.vm } : State) [] (0 + 1) (0 + 6) := ⟨e1, e2⟩
    have h3 := X.same.trans h2
    rw [List.append_nil] at h3
    exact h3.mono hc hs
  refine ⟨U, ?_, .threw T.heap.size, hrun, hend, Or.inr ⟨T.heap.size, rfl, cls, ce, locs, hx U hWs.alike f1 (fun q hq => f2 q hq (fun z hz => nomatch hz)), hce, hO.vm, hcl, hWs, hall, hf⟩⟩
  refine st1 _ ?_
  show Steps p.tables e below (T1.setTop { method := m, pc := pc + 3, locals := ls, stack := .ref T.heap.size :: rest, locked := none }) _
  jvm_step X₁.here [X₁.here.top, hexec, d3', Value.category]
  exact X₁.ldcString hexec (own := own) (text := text) (index := is) (a := sa) hown' hstr'.1 hstr'.2
    (g := { method := m, pc := pc + 4, locals := ls, stack := .ref T.heap.size :: .ref T.heap.size :: rest, locked := none }) rfl d4' _ hsteps
/-- 'throw new E("text")', the text by a wide index -/
theorem vx_throwSW {cc : ByteArray} {pc : Nat} (hexec : p.tables.exec = Jvm.exec) (hb : c.code = cc) (hl : l.stackTraces = false) {own cls text : String} {names : List String} {ik is ic mc ms sa : Nat} {A : Nat → Prop}
    (hown : s.vm.findClass own = some m.cls) (hcls : Bundle.fit cls = true) (hnames : ∀ n ∈ names, Bundle.fit n = true)
    (hk : (Cond.classLink own ik cls).before args s = true) (hini : (Cond.initialized cls).before args s = true) (hstr : vk_R own is text sa s) (hat : ∀ w ∈ vx_atS own ic cls names, w.before args s = true)
    (hgood : ∀ w ∈ Cond.classLink own ik cls :: Cond.initialized cls :: vx_atS own ic cls names, vx_ot w = true)
    (hU : vx_Zq Bundle.tN "UNASSIGNED_STACK" Bundle.steD A s s.heap) (hN : vx_Zq Bundle.tN "SUPPRESSED_SENTINEL" Bundle.listD A s s.heap) (hS : va_S A s.heap H locs) (hsize : ls.size = c.maxLocals)
    (d0 : decode cc pc = .ok (.new ik, 3)) (d3 : decode cc (pc + 3) = .ok (.dup, 1)) (d4 : decode cc (pc + 4) = .ok (.ldc_w is, 3)) (d7 : decode cc (pc + 7) = .ok (.invokespecial ic, 3)) (d10 : decode cc (pc + 10) = .ok (.athrow, 1))
    (hout : ∀ x ∈ c.exceptionTable.toList, covers x (pc + 10) = false)
    (hRframes : names.length + 3 < R.frames) (hRlocals : (rest.map fun v => v.category).sum + (13 * (names.length + 1) + 43) ≤ R.locals) (hRcells : cells + 1 ≤ R.cells) (hRslots : slots + 6 ≤ R.slots) (hlocks : meth.locks = false)
    (hx : ∀ t : State, s.vm.Alike t.vm → H.size ≤ t.heap.size → (∀ q : Nat, q < H.size → t.heap[q]? = H[q]?) → XC cls s t)
    (hf : ∀ z ∈ locs, free z.base) (hc : cells + 1 ≤ mc) (hs : slots + 6 ≤ ms) :
    W p l e R s m args below meth c H locs cells slots (vx_MQ below Qc XC args s mc ms free) (F0 m pc ls rest) := by
  intro T hT X
  have htr : e.platform.stackTraces = false := (show e.platform.stackTraces = l.stackTraces by rw [X.admits.platform]).trans hl
  have Y := vx_rebase X (R' := { frames := R.frames, locals := R.locals, cells := 1, slots := 6 }) (Nat.le_refl _) (Nat.le_refl _) hRcells hRslots
  obtain ⟨s', hA⟩ : ∃ z, z = (T.setVm s.vm).setFrames (.invoking m args :: below) := ⟨_, rfl⟩
  rw [← hA] at Y
  have hvm : s'.vm = s.vm := by rw [hA]; rfl
  have hhp : s'.heap = H := by rw [hA]; exact hT
  have hW0 : s.WarmedH s'.vm := by rw [hvm]; exact State.WarmedH.refl s
  have hat' : ∀ w ∈ vx_atS own ic cls names, w.before args s' = true := fun w hw => vx_ot_at hW0 hvm.symm (hgood w (List.mem_cons_of_mem _ (List.mem_cons_of_mem _ hw))) (hat w hw)
  have hk' : (Cond.classLink own ik cls).before args s' = true := vx_ot_at hW0 hvm.symm (hgood _ List.mem_cons_self) hk
  have hini' : (Cond.initialized cls).before args s' = true := vx_ot_at hW0 hvm.symm (hgood _ (List.mem_cons_of_mem _ List.mem_cons_self)) hini
  have hU' : vx_Zq Bundle.tN "UNASSIGNED_STACK" Bundle.steD A s' s'.heap := by rw [hhp]; exact vx_Zq.moved hW0.alike (hU.kept hS.2.1)
  have hN' : vx_Zq Bundle.tN "SUPPRESSED_SENTINEL" Bundle.listD A s' s'.heap := by rw [hhp]; exact vx_Zq.moved hW0.alike (hN.kept hS.2.1)
  have h : ∀ w ∈ Bundle.ownAtoms own ic cls names, w.before args s' = true := vx_own hat' (vx_isRefq hU'.1) (vx_isRefq hN'.1) hU'.2.word hN'.2.word
  have hown' : s'.vm.findClass own = some m.cls := by rw [hvm]; exact hown
  have hins : (Cond.instantiable cls 6).before args s' = true := h _ (by simp [Bundle.ownAtoms])
  obtain ⟨vm₁, cX, kX, hfX, hkX, -, -, X₁, st1⟩ := Y.newCold hexec (own := own) (C := cls) (index := ik) (n := 6) hown' hk' hins hini'
    (g := F0 m pc ls rest) rfl (by rw [hb]; exact d0) (Nat.le_refl _) (Nat.le_refl _)
  generalize hT1 : (T.setVm vm₁).pushCell { cls := cX, slots := kX.instanceTypes.map defaultValue, vm := .none } = T1 at X₁ st1
  have hcat : (Value.ref T.heap.size).category = 1 := rfl
  have hcellA : T1.heap[T.heap.size]? = some (freshCell cX kX) := by rw [← hT1]; exact State.heap_pushCell_size _ _
  have d3' : decode c.code (pc + 3) = .ok (.dup, 1) := by rw [hb]; exact d3
  have d4' : decode c.code (pc + 4) = .ok (.ldc_w is, 3) := by rw [hb]; exact d4
  have hstr' : vk_R own is text sa s' := vk_R.warm hW0 hstr
  obtain ⟨U, hsteps, hrun, hend, hW, hsame, ce, hce, hO⟩ := X₁.ctorThrowS hexec htr (own := own) (cls := cls) (names := names) (ic := ic) hown' hcls hnames h (fun x hx => nomatch hx) hfX hkX hcellA (by rw [hhp, hT]; exact Nat.le_refl _) (msg := .ref sa) rfl
    (g := { method := m, pc := pc + 7, locals := ls, stack := .ref sa :: .ref T.heap.size :: .ref T.heap.size :: rest, locked := none }) rfl hsize rfl rfl (rest := rest) rfl
    (by rw [hb]; exact d7) (by rw [hb]; exact d10) hout hRframes (by simp only [List.map_cons, List.sum_cons, hcat]; omega) hlocks
  obtain ⟨f1, f2⟩ := vx_frame hsame
  rw [hhp] at f1 f2
  have hWs : s.WarmedH U.vm := State.WarmedH.trans hW0 hW
  have hcl : s.vm.findClass cls = some ce.cls := by
    have h9 := hO.cls
    rw [hvm] at h9
    exact h9
  have hall : s.sameButNew ({ U with vm := s.vm } : State) locs mc ms := by
    subst hA
    obtain ⟨e1, e2⟩ := hsame
    rw [State.setFrames_setFrames] at e1
    have h2 : (T.setVm s.vm).sameButNew ({ U with vm := s.vm } : State) [] (0 + 1) (0 + 6) := ⟨e1, e2⟩
    have h3 := X.same.trans h2
    rw [List.append_nil] at h3
    exact h3.mono hc hs
  refine ⟨U, ?_, .threw T.heap.size, hrun, hend, Or.inr ⟨T.heap.size, rfl, cls, ce, locs, hx U hWs.alike f1 (fun q hq => f2 q hq (fun z hz => nomatch hz)), hce, hO.vm, hcl, hWs, hall, hf⟩⟩
  refine st1 _ ?_
  show Steps p.tables e below (T1.setTop { method := m, pc := pc + 3, locals := ls, stack := .ref T.heap.size :: rest, locked := none }) _
  jvm_step X₁.here [X₁.here.top, hexec, d3', Value.category]
  exact X₁.ldcStringW hexec (own := own) (text := text) (index := is) (a := sa) hown' hstr'.1 hstr'.2
    (g := { method := m, pc := pc + 4, locals := ls, stack := .ref T.heap.size :: .ref T.heap.size :: rest, locked := none }) rfl d4' _ hsteps
end Ends
section Bodies
variable {l : Launch}
theorem vx_ofW {y : MethodName} {ws ws' : List Cond} {rm : Room} {Pc : Array Value → State → Prop} {Qc : Array Value → State → Outcome → State → Prop} {XC : String → State → State → Prop} {mc ms : Nat} {free : Addr → Prop} {cc : ByteArray} {maxL : Nat} {ret : Option FieldType}
    (hy : plainName y.cls = true) (hw : ws = Cond.code y cc maxL ret :: ws')
    (body : ∀ p e s m args below meth c s₁, BodyLoose p l y (headSpec ws rm) cc maxL ret e s m args below meth c s₁ → c.maxLocals = maxL → (∀ x ∈ c.exceptionTable.toList, False) → Pc args s →
      W p l e (headSpec ws rm).room s m args below meth c s.heap [] 0 0 (vx_MQ below Qc XC args s mc ms free) (entryFrame m args maxL)) : vx_Met l y ws rm Pc Qc XC mc ms free := by
  refine MetFree.of_bodyS (code := cc) (maxLocals := maxL) (ret := ret) hy ?_ ?_
  · intro args s m h hn
    obtain ⟨meth, c, h1, h2, h3, h4, h5, h6, -, -⟩ := Cond.code_spec hn (atoms_spec (ws := ws) h _ (by rw [hw]; exact List.mem_cons_self))
    exact ⟨meth, c, h1, h2, h3, h4, h5, h6⟩
  · intro p e s m args below meth c s₁ B hml hP _
    have hh0 : s₁.heap = s.heap := by rw [B.state]; rfl
    have ht : ∀ x ∈ c.exceptionTable.toList, False := by
      obtain ⟨meth9, c9, h1, h2, -, -, -, -, h7, -⟩ := Cond.code_spec B.named (atoms_spec (ws := ws) B.pre _ (by rw [hw]; exact List.mem_cons_self))
      cases Option.some.inj (h1.symm.trans B.method)
      cases Option.some.inj (h2.symm.trans (Stand.of_body B).code)
      intro x hx
      rw [Array.isEmpty_iff.mp h7] at hx
      cases hx
    obtain ⟨t, a1, o, b1, b2, b3⟩ := body p e s m args below meth c s₁ B hml ht hP s₁ hh0 (Stand.of_body B)
    exact ⟨t, o, a1, b1, b2, b3⟩
/-- the table of a body with handlers -/
theorem vx_table {p : Program} {x y : MethodName} {S : Spec} {cc bytes : ByteArray} {maxL maxL' : Nat} {ret ret' : Option FieldType} {e : Env} {s s₁ : State} {m : MethodId} {args : Array Value} {below : List Frame} {meth : Method} {c : Code} {hh : List (Nat × Nat × Nat × Nat)}
    (B : BodyLoose p l y S cc maxL ret e s m args below meth c s₁) (h : (Cond.codeWith y bytes maxL' ret' hh).before args s = true) : c.exceptionTable.toList = tableOf hh := by
  obtain ⟨m9, meth9, c9, hn9, h1, h2, -, -, h6, -⟩ := Cond.codeWith_spec h
  cases Option.some.inj (hn9.symm.trans B.named)
  cases Option.some.inj (h1.symm.trans B.method)
  cases Option.some.inj (h2.symm.trans (Stand.of_body B).code)
  rw [← h6, table_eq]
end Bodies
end VXA
/-! ===== END ===== -/
/-! ===== BEGIN a static call of a method with an exception table ===== -/
section VXS
variable {p : Program} {l : Launch} {e : Env} {R : Room} {s : State} {m : MethodId} {args : Array Value} {below : List Frame} {meth : Method} {c : Code} {T : State} {H : Heap} {locs : List Loc} {cells slots : Nat}
abbrev vx_CSW (R : Room) (s : State) (args : Array Value) (own : String) (index : Nat) (y : MethodName) (bytes : ByteArray) (maxL : Nat) (ret : Option FieldType) (hh : List (Nat × Nat × Nat × Nat)) (ws : List Cond) (rm : Room) (mc ms n : Nat) : Prop :=
  (rm.cells = mc ∧ rm.slots = ms ∧ rm.frames + 1 ≤ R.frames ∧ 8 + (maxL + 11) + rm.locals ≤ R.locals ∧ (∀ w ∈ ws, ∀ (a' : Array Value) (U : State), s.WarmedH U.vm → w.before a' U = true) ∧ Cond.codeWith y bytes maxL ret hh ∈ ws) ∧
  (Cond.codeWith y bytes maxL ret hh).before args s = true ∧ (Cond.initialized y.cls).before args s = true ∧ (y.cls ≠ "java/lang/invoke/MethodHandle" ∧ y.cls ≠ "java/lang/invoke/VarHandle") ∧
  (∀ sig, parseMethodDescriptor y.desc = some sig → n = sig.parameters.length) ∧ (Cond.methodLink own index y).before args s = true ∧ (Cond.static y).before args s = true
theorem vx_cwSW {own : String} {index maxL mc ms : Nat} {y : MethodName} {bytes : ByteArray} {ret : Option FieldType} {hh : List (Nat × Nat × Nat × Nat)} {Ts ws ws' : List Cond} {rm : Room} (n : Nat) (ht : ∀ w ∈ Ts, w.before args s = true) (hT : GoodIn Ts (va_wsS own index y ws)) (hw : ws = Cond.codeWith y bytes maxL ret hh :: ws') (hrc : rm.cells = mc) (hrs : rm.slots = ms)
    (hd : y.cls ≠ "java/lang/invoke/MethodHandle" ∧ y.cls ≠ "java/lang/invoke/VarHandle" ∧ (parseMethodDescriptor y.desc).map (fun d => d.parameters.length) = some n) (hR : rm.frames + 1 ≤ R.frames ∧ 8 + (maxL + 11) + rm.locals ≤ R.locals) :
    vx_CSW R s args own index y bytes maxL ret hh ws rm mc ms n := by
  have ok : ∀ w ∈ va_wsS own index y ws, w.before args s = true := fun w h => ht w (hT w h).1
  have hG : GoodIn Ts ws := fun w h => hT w (by unfold va_wsS; exact List.mem_append_right _ h)
  have hc : Cond.codeWith y bytes maxL ret hh ∈ ws := by rw [hw]; exact List.mem_cons_self
  refine ⟨⟨hrc, hrs, hR.1, hR.2, pay_in ht hG, hc⟩, ht _ (hG _ hc).1, ok _ (by simp [va_wsS]), ⟨hd.1, hd.2.1⟩, fun sig h => ?_, ok _ (by simp [va_wsS]), ok _ (by simp [va_wsS])⟩
  have h2 := hd.2.2
  rw [h] at h2
  exact (Option.some.inj h2).symm
theorem vx_callSW (X : Stand p l e R s m args below meth c T locs cells slots) (hexec : p.tables.exec = Jvm.exec) {own : String} {index : Nat} {y : MethodName} {bytes : ByteArray} {maxL : Nat} {ret : Option FieldType} {hh : List (Nat × Nat × Nat × Nat)}
    (hown : s.vm.findClass own = some m.cls) (hlink : (Cond.methodLink own index y).before args s = true) (hstat : (Cond.static y).before args s = true) (hinit : (Cond.initialized y.cls).before args s = true)
    (hcode : (Cond.codeWith y bytes maxL ret hh).before args s = true) (hy : y.cls ≠ "java/lang/invoke/MethodHandle" ∧ y.cls ≠ "java/lang/invoke/VarHandle")
    {W9 : Nat} {Pre : Pt → Array Value → Prop} {Post : Pt → Array Value → Option Value → Pt → Prop} (hK : Back l R p e below s args y 3 W9 Pre Post)
    {g : JFrame} (hg : g.method = m) (hsize : g.locals.size = c.maxLocals) {argsL rest : List Value} (hlen : ∀ sig, parseMethodDescriptor y.desc = some sig → argsL.length = sig.parameters.length)
    (hstack : g.stack = argsL.reverse ++ rest) (hW : 2 * g.monitorRoom + (rest.map fun v => v.category).sum ≤ W9) (hdg : decode c.code g.pc = .ok (.invokestatic index, 3))
    (hpre : ∀ vm₁, s.WarmedH vm₁ → Pre ⟨T.setVm vm₁, locs, cells, slots⟩ argsL.toArray) :
    ∃ (v : Option Value) (vm₁ : Vm) (B : Pt), s.WarmedH vm₁ ∧ Stand p l e R s m args below meth c B.U B.locs B.cells B.slots ∧ Post ⟨T.setVm vm₁, locs, cells, slots⟩ argsL.toArray v B ∧
      ∀ target, Steps p.tables e below (B.U.setTop { g with pc := g.pc + 3, stack := v.toList ++ rest }) target → Steps p.tables e below (T.setTop g) target := by
  obtain ⟨mk, methM, cM, hnamed, hmethM, -, -, -, -, -, -, hsigM⟩ := Cond.codeWith_spec hcode
  have hstatic : methM.isStatic = true := Cond.static_spec hnamed hmethM hstat
  obtain ⟨kP, hkP, -⟩ := className_of_methodNamed hnamed
  have hinitP : kP.init = .initialized := Cond.initialized_spec (findClass_of_methodNamed hnamed) hkP hinit
  obtain ⟨vm₁, X₁, hstep₁⟩ := X.invokestatic hexec hown hlink hnamed hmethM hstatic hkP hinitP hy (g := g) hg (argsL := argsL) (rest := rest) (hlen _ hsigM) hstack hdg
  obtain ⟨v, B, X', hpost, hsteps⟩ := hK m meth c ⟨T.setVm vm₁, locs, cells, slots⟩ { g with stack := rest } (.invokestatic index) mk argsL.toArray X₁ hg hsize hdg hW (X₁.named hnamed) (hpre vm₁ X₁.warmed)
  exact ⟨v, vm₁, B, X₁.warmed, X', hpost, fun target h => hstep₁ _ fun acts => by rw [doInvoke_state]; exact hsteps.trans h⟩
theorem vx_runSW {y : MethodName} {bytes cc : ByteArray} {maxL nL mc ms n index : Nat} {ret : Option FieldType} {hh : List (Nat × Nat × Nat × Nat)} {ws : List Cond} {rm : Room} {Pc : Array Value → State → Prop} {Qc : Array Value → State → Outcome → State → Prop} {free : Addr → Prop} {Ts : List Cond} {own : String} {As rest : List Value} {g : JFrame}
    (S : CallFix p m c cc nL s args Ts own) (hM : Met l y ws rm Pc Qc mc ms free) (cw : vx_CSW R s args own index y bytes maxL ret hh ws rm mc ms n) (hp : PreS s H Pc As)
    (hg : g.method = m) (hn : As.length = n) (hsize : g.locals.size = nL) (hstack : g.stack = As.reverse ++ rest) (hW : 2 * g.monitorRoom + (rest.map fun v => v.category).sum ≤ 8) (hdg : decode cc g.pc = .ok (.invokestatic index, 3)) (hf : cells + mc ≤ R.cells ∧ slots + ms ≤ R.slots) :
    va_Run p l e R s m args below meth c H locs cells slots mc ms g rest (Qc As.toArray) (free) := by
  obtain ⟨⟨hrc, hrs, hfr, hlo, hws, hcw⟩, hcode, hini, hy, hlen, hl, hstt⟩ := cw
  have hK : Back l R p e below s args y 3 8 (PreOf R mc ms Pc) (PostOf Qc mc ms free) := va_backW (hh := hh) (bytes := bytes) (maxL := maxL) (ret := ret) hM hp.1 hrc hrs hfr hlo hws hcw (fun a' U hW => word_at hW (Or.inl (by first | rfl | simp [Cond.onTables, Cond.keeps, Cond.steady])) hini)
  obtain ⟨hx, hb, hml, ho, -⟩ := S
  intro T hT X
  obtain ⟨v, vm₁, ⟨U', l2, c2, s2⟩, hW₁, X', ⟨g', mk, t, L, e1, e2, hq, h1, hL, h2, h3⟩, st⟩ := vx_callSW X hx (hh := hh) (bytes := bytes) (maxL := maxL) (ret := ret) ho hl hstt hini hcode hy hK hg (hsize.trans hml.symm) (argsL := As) (rest := rest) (fun sig h => hn.trans (hlen sig h)) hstack hW (by rw [hb]; exact hdg)
    (fun vm₁ hW₁ => ⟨hf.1, hf.2, hp.2 (T.setVm vm₁) hT hW₁⟩)
  dsimp only [Pt.U, Pt.locs, Pt.cells, Pt.slots] at X' e1 e2 h1 h2 h3 st
  subst h1; subst h2; subst h3
  exact ⟨v, (T.setVm vm₁).calling g' mk As.toArray, t, U', L, hT, X', hL, e1, e2, hq, st⟩
/-- not caught here, past rows that name other classes: it goes on to the caller -/
theorem vx_outP {p : Program} {l : Launch} {e : Env} {R : Room} {s : State} {m : MethodId} {args : Array Value} {below : List Frame} {meth : Method} {c : Code} {H : Heap} {locs : List Loc} {cells slots : Nat} {free : Addr → Prop} {ls : Array Slot} {rest : List Value} {Qc : Array Value → State → Outcome → State → Prop} {XC : String → State → State → Prop}
    {pc : Nat} {own E : String} {ce : Cell} {q : Addr} {mc ms : Nat} (hown : s.vm.findClass own = some m.cls) (hlocks : meth.locks = false)
    (hpass : ∀ z ∈ c.exceptionTable.toList, covers z pc = false ∨ (z.catchType ≠ 0 ∧ ∃ nm : String, (Cond.classLink own z.catchType nm).before args s = true ∧ va_Nc E nm s)) (hcell : H[q]? = some ce) (hv : ce.vm = .none) (hcl : s.vm.findClass E = some ce.cls)
    (hx : ∀ t : State, t.heap = H → s.vm.Alike t.vm → XC E s t) (hf : ∀ z ∈ locs, free z.base) (hc : cells ≤ mc) (hs : slots ≤ ms) :
    vx_W p l e R s m args below meth c H locs cells slots (vx_MQ below Qc XC args s mc ms free) (F0 m pc ls rest) q := by
  intro T hT X
  have hpl : e.platform.magicAccessors = ({} : Platform).magicAccessors := by rw [X.admits.platform]
  obtain ⟨vm', hW', X', st⟩ := X.outThrough hlocks q (g := F0 m pc ls rest) rfl rfl rfl (cell := ce) (by rw [hT]; exact hcell) (by rw [hv]; rfl)
    (by obtain ⟨k9, h9, -⟩ := Vm.findClass_spec hcl; exact ⟨k9, h9⟩) (fun z hz => by
      rcases hpass z hz with h | ⟨hz0, nm, hl1, hn1⟩
      · exact Or.inl h
      · obtain ⟨c6, hc6, hcl6⟩ := Cond.classLink_spec hown hl1 e.platform hpl
        obtain ⟨a8, b8, h1, h2, h3⟩ := hn1
        cases Option.some.inj (h1.symm.trans hcl)
        cases Option.some.inj (h2.symm.trans hc6)
        exact Or.inr ⟨hz0, _, hcl6, h3⟩)
  obtain ⟨g₀, hfr⟩ := X'.frames_eq
  have hcell9 : ((T.setVm vm').setFrames (.throwing q :: below)).heap[q]? = some ce := by
    show T.heap[q]? = some ce
    rw [hT]; exact hcell
  have hend : Ended ((T.setVm vm').setFrames (.throwing q :: below)) below (.threw q) := State.frames_setFrames _ (State.cur_lt_of_frames hfr)
  refine ⟨(T.setVm vm').setFrames (.throwing q :: below), ?_, .threw q, X'.here.running, hend, Or.inr ⟨q, rfl, E, ce, locs, hx _ hT (X'.ends _).1.alike, hcell9, hv, hcl, (X'.ends _).1, (X'.ends _).2.mono hc hs, hf⟩⟩
  rw [X.pushThrowing_eq]
  exact st
/-- a thing of a world lies in the heap -/
theorem vx_lt {D : va_G} {cl : List vw_C} {ws : va_W} {H1 : Heap} (h : va_P D cl ws H1) {k : Nat} {q : Nat × va_E} (hk : ws[k]? = some q) : q.1 < H1.size := (h k q hk).lt
end VXS
/-! ===== END ===== -/
/-! ===== BEGIN methods with a table of their own: called by a name, returning or throwing ===== -/
section VXH
/-! vx_backW, vx_callVX, vx_callSX, vx_callVW, vx_runVW, vx_runVX, vx_runSX, vx_ofWH follow the same proofs as their sisters above (Free/Laws.lean, Shelf42/LK1.lean); vx_outP calls Shelf42/NT130.lean (outThrough). -/
section
variable {l : Launch} {R : Room} {p : Program} {e : Env} {below : List Frame} {s : State} {sargs : Array Value} {y : MethodName} {len W9 : Nat}
theorem vx_backW {ws : List Cond} {rm : Room} {Pc : Array Value → State → Prop} {Qc : Array Value → State → Outcome → State → Prop} {XC : String → State → State → Prop} {mc ms : Nat} {free : Addr → Prop} {bytes : ByteArray} {maxL : Nat} {ret : Option FieldType} {hh : List (Nat × Nat × Nat × Nat)}
    (hM : vx_Met l y ws rm Pc Qc XC mc ms free) (hblind : FrameBlind Pc) (hrc : rm.cells = mc) (hrs : rm.slots = ms)
    (hframes : rm.frames + 1 ≤ R.frames) (hlocals : W9 + (maxL + 11) + rm.locals ≤ R.locals)
    (hws : ∀ w ∈ ws, ∀ a' U, s.WarmedH U.vm → w.before a' U = true) (hcode : Cond.codeWith y bytes maxL ret hh ∈ ws) (hinit : ∀ a' U, s.WarmedH U.vm → (Cond.initialized y.cls).before a' U = true) :
    vx_Back l R p e below s sargs y len W9 (PreOf R mc ms Pc) (PostOf Qc mc ms free) (vx_Post XC mc ms free) := by
  intro m meth c A g ig mk a X hg hsize hdg hW hn hp
  have h1 : (headSpec ws rm).pre.before a A.U = true := atoms_intro fun w hw => hws w hw _ _ X.warmed
  have h2 : (Cond.codeWith y bytes maxL ret hh).before a A.U = true := hws _ hcode _ _ X.warmed
  have h3 : (Cond.initialized y.cls).before a A.U = true := hinit _ _ X.warmed
  have h4 : A.cells + (headSpec ws rm).room.cells ≤ R.cells := by rw [show (headSpec ws rm).room.cells = mc from hrc]; exact hp.1
  have h5 : A.slots + (headSpec ws rm).room.slots ≤ R.slots := by rw [show (headSpec ws rm).room.slots = ms from hrs]; exact hp.2.1
  have hPc : Pc a (A.U.calling g mk a) := hblind _ _ _ _ hp.2.2
  obtain ⟨U, Ls, c0, s0⟩ := A
  dsimp only [Pt.U, Pt.locs, Pt.cells, Pt.slots] at h1 h2 h3 h4 h5 X hn hPc ⊢
  obtain ⟨m9, methY, cY, hn9, hmY, hcY, -, hlY, -⟩ := Cond.codeWith_spec h2
  cases Option.some.inj (hn9.symm.trans hn)
  obtain ⟨kY, hkY, -⟩ := className_of_methodNamed hn
  have hinitY : kY.init = .initialized := Cond.initialized_spec (findClass_of_methodNamed hn) hkY h3
  have h : At U g.method c below := by rw [hg]; exact X.here
  have hlocals9 : W9 + (maxL + 11) + (headSpec ws rm).room.locals ≤ R.locals := hlocals
  have happ : (headSpec ws rm).appliesLoose y e.platform (U.calling g mk a) = true :=
    Spec.appliesLoose_calling (g := g) h hdg hn hkY hinitY
      (X.room_calling (g := g) (R' := (headSpec ws rm).room) hsize hmY hcY hframes (by rw [hlY]; omega) h4 h5) h1
  obtain ⟨mid, hmid⟩ := h.above
  have hfr : (U.setTop g).frames = (.java g :: mid) ++ below := by rw [State.frames_setTop' g h.top, hmid]; rfl
  obtain ⟨o, s₂, hsteps, -, hend, hq⟩ := Steps.callFree hM p X.admits X.cas X.clock (acts := []) hfr happ hPc trivial
  have hq' : vx_Q Qc XC mc ms free a (U.calling g mk a) o s₂ := hq
  rw [State.frames_setTop' g h.top] at hend
  obtain ⟨g₀, hg0⟩ := Option.isSome_iff_exists.mp h.top
  obtain ⟨r, hr⟩ := State.topJava?_eq_some.mp hg0
  have hr' : (({ U with heap := s₂.heap, slotsUsed := s₂.slotsUsed } : State).setVm s₂.vm).frames = .java g₀ :: r := hr
  rcases hq' with ⟨hqc, L, hfe, hL⟩ | ⟨q, rfl, E, ce, L, hx, hce, hcv, hcl, hW₂, hsm, hL⟩
  · obtain ⟨⟨v, rfl⟩, hW₂, e2, q2, q3, q4, q5, q6⟩ := id hfe
    have e3 : s₂ = ({ (U.calling g mk a).setFrames s₂.frames with heap := s₂.heap, slotsUsed := s₂.slotsUsed } : State).setVm s₂.vm := by
      have : s₂ = ({ s₂ with vm := (U.calling g mk a).vm } : State).setVm s₂.vm := rfl
      rw [e2] at this
      exact this
    obtain ⟨c₂, i₂, len₂, hc₂, hd₂, hf₂⟩ := hend
    have hW' : U.WarmedH s₂.vm := hW₂
    have hcc : c₂ = c := by
      have h1 : s₂.code? g.method = U.code? g.method := by
        rw [State.code?_eq, State.code?_eq, hW'.alike.method?]
      exact Option.some.inj (hc₂.symm.trans (h1.trans h.code))
    subst hcc
    have hlen : len₂ = len := by rw [hdg] at hd₂; cases hd₂; rfl
    subst hlen
    have hs₂ : s₂ = (({ U with heap := s₂.heap, slotsUsed := s₂.slotsUsed } : State).setVm s₂.vm).setTop { g with pc := g.pc + len₂, stack := v.toList ++ g.stack } := by
      refine e3.trans ?_
      rw [hf₂, State.calling_eq h.top, State.setFrames_setFrames, State.setTop_of_frames _ hr', hr]
      rfl
    have hsame : U.sameButNew ({ U with heap := s₂.heap, slotsUsed := s₂.slotsUsed } : State) L mc ms := by
      refine ⟨?_, q2, q3, q4, q5, q6⟩
      obtain ⟨t, ht, -⟩ := State.frames_cons hr
      show ({ U with heap := s₂.heap, slotsUsed := s₂.slotsUsed } : State) = { U.setFrames U.frames with heap := s₂.heap, slotsUsed := s₂.slotsUsed }
      rw [State.setFrames_self ht]
    subst hg
    refine Or.inl ⟨v, ⟨(({ U with heap := s₂.heap, slotsUsed := s₂.slotsUsed } : State).setVm s₂.vm), Ls ++ L, c0 + mc, s0 + ms⟩,
      ⟨X.admits, X.cas, X.clock, X.frames, X.room, X.hears, X.method, X.code, (X.here.setHeapUsed s₂.heap s₂.slotsUsed).setVm hW'.alike, X.tail, State.WarmedH.trans X.warmed hW', X.limits, X.bytes, X.same.trans (hsame.setVm s.vm)⟩,
      ⟨g, mk, s₂, L, rfl, rfl, hqc, rfl, hL, rfl, rfl⟩, ?_⟩
    show Steps p.tables e below _ ((({ U with heap := s₂.heap, slotsUsed := s₂.slotsUsed } : State).setVm s₂.vm).setTop { g with pc := g.pc + len₂, stack := v.toList ++ g.stack })
    rw [← hs₂]
    exact hsteps
  · obtain ⟨e2, q2, q3, q4, q5, q6⟩ := id hsm
    have e3 : s₂ = ({ (U.calling g mk a).setFrames s₂.frames with heap := s₂.heap, slotsUsed := s₂.slotsUsed } : State).setVm s₂.vm := by
      have : s₂ = ({ s₂ with vm := (U.calling g mk a).vm } : State).setVm s₂.vm := rfl
      rw [e2] at this
      exact this
    have hf₂ : s₂.frames = .throwing q :: .java g :: U.frames.tail := hend
    have hW' : U.WarmedH s₂.vm := hW₂
    have hs₂ : s₂ = ((({ U with heap := s₂.heap, slotsUsed := s₂.slotsUsed } : State).setVm s₂.vm).setTop g).pushFrame (.throwing q) := by
      refine e3.trans ?_
      rw [hf₂, State.calling_eq h.top, State.setFrames_setFrames, State.pushFrame, State.frames_setTop _ hr', State.setTop_of_frames _ hr', State.setFrames_setFrames, hr]
      rfl
    have hsame : U.sameButNew ({ U with heap := s₂.heap, slotsUsed := s₂.slotsUsed } : State) L mc ms := by
      refine ⟨?_, q2, q3, q4, q5, q6⟩
      obtain ⟨t, ht, -⟩ := State.frames_cons hr
      show ({ U with heap := s₂.heap, slotsUsed := s₂.slotsUsed } : State) = { U.setFrames U.frames with heap := s₂.heap, slotsUsed := s₂.slotsUsed }
      rw [State.setFrames_self ht]
    subst hg
    refine Or.inr ⟨q, ⟨(({ U with heap := s₂.heap, slotsUsed := s₂.slotsUsed } : State).setVm s₂.vm), Ls ++ L, c0 + mc, s0 + ms⟩,
      ⟨X.admits, X.cas, X.clock, X.frames, X.room, X.hears, X.method, X.code, (X.here.setHeapUsed s₂.heap s₂.slotsUsed).setVm hW'.alike, X.tail, State.WarmedH.trans X.warmed hW', X.limits, X.bytes, X.same.trans (hsame.setVm s.vm)⟩,
      ⟨g, mk, s₂, L, E, ce, rfl, rfl, hx, hce, hcv, hcl, rfl, hL, rfl, rfl⟩, ?_⟩
    show Steps p.tables e below _ (((({ U with heap := s₂.heap, slotsUsed := s₂.slotsUsed } : State).setVm s₂.vm).setTop g).pushFrame (.throwing q))
    rw [← hs₂]
    exact hsteps
end
variable {p : Program} {l : Launch} {e : Env} {R : Room} {s : State} {m : MethodId} {args : Array Value} {below : List Frame} {meth : Method} {c : Code} {T : State} {H : Heap} {locs : List Loc} {cells slots : Nat}
theorem vx_callVX (X : Stand p l e R s m args below meth c T locs cells slots) (hexec : p.tables.exec = Jvm.exec) {own C : String} {index : Nat} {y : MethodName} {bytes : ByteArray} {maxL : Nat} {ret : Option FieldType} {hh : List (Nat × Nat × Nat × Nat)}
    (hown : s.vm.findClass own = some m.cls) (hlink : (Cond.methodLink own index y).before args s = true) (hinst : (Cond.instanceMethod y).before args s = true) (hsel : (Cond.selects C y y).before args s = true)
    (hcode : (Cond.codeWith y bytes maxL ret hh).before args s = true) (hy : y.cls ≠ "java/lang/invoke/MethodHandle" ∧ y.cls ≠ "java/lang/invoke/VarHandle")
    {W9 : Nat} {Pre : Pt → Array Value → Prop} {Post : Pt → Array Value → Option Value → Pt → Prop} {PostX : Pt → Array Value → Addr → Pt → Prop} (hK : vx_Back l R p e below s args y 3 W9 Pre Post PostX)
    {b : Addr} {cellB : Cell} (hcell : T.heap[b]? = some cellB) (hobj : cellB.vm.isStatics = false) (hcls : s.vm.findClass C = some cellB.cls)
    {g : JFrame} (hg : g.method = m) (hsize : g.locals.size = c.maxLocals) {argsL rest : List Value} (hlen : ∀ sig, parseMethodDescriptor y.desc = some sig → argsL.length = sig.parameters.length)
    (hstack : g.stack = argsL.reverse ++ .ref b :: rest) (hW : 2 * g.monitorRoom + (rest.map fun v => v.category).sum ≤ W9) (hdg : decode c.code g.pc = .ok (.invokevirtual index, 3))
    (hpre : ∀ vm₁, s.WarmedH vm₁ → Pre ⟨T.setVm vm₁, locs, cells, slots⟩ (Value.ref b :: argsL).toArray) :
    (∃ (v : Option Value) (vm₁ : Vm) (B : Pt), s.WarmedH vm₁ ∧ Stand p l e R s m args below meth c B.U B.locs B.cells B.slots ∧ Post ⟨T.setVm vm₁, locs, cells, slots⟩ (Value.ref b :: argsL).toArray v B ∧
      ∀ target, Steps p.tables e below (B.U.setTop { g with pc := g.pc + 3, stack := v.toList ++ rest }) target → Steps p.tables e below (T.setTop g) target) ∨
    (∃ (q : Addr) (vm₁ : Vm) (B : Pt), s.WarmedH vm₁ ∧ Stand p l e R s m args below meth c B.U B.locs B.cells B.slots ∧ PostX ⟨T.setVm vm₁, locs, cells, slots⟩ (Value.ref b :: argsL).toArray q B ∧
      Steps p.tables e below (T.setTop g) ((B.U.setTop { g with stack := rest }).pushFrame (.throwing q))) := by
  obtain ⟨mk, methM, hnamed, hmethM, hstM, habM⟩ := Cond.instanceMethod_spec hinst
  obtain ⟨m8, methM', cM, hn8, hmethM', -, -, -, -, -, -, hsigM⟩ := Cond.codeWith_spec hcode
  cases Option.some.inj (hn8.symm.trans hnamed)
  cases hmethM.symm.trans hmethM'
  obtain ⟨c2, r2, m2, q1, q2, q3, q4, kP, hkP, hkPi⟩ := Cond.selects_spec hsel
  cases hcls.symm.trans q1
  cases (State.methodFound?_of_named hnamed hy).symm.trans q2
  cases hnamed.symm.trans q3
  have hselP : selectMethod e.platform s.vm cellB.cls mk = .method mk := by rw [Launch.admits_selectMethod X.admits]; exact q4
  obtain ⟨vm₁, X₁, hstep₁⟩ := X.invokevirtual hexec hown hlink hnamed hmethM hstM hkP hkPi hy (a := b) (cell := cellB) hcell
    (fun z h => by rw [h] at hobj; cases hobj) hselP hmethM habM hkP hkPi (g := g) hg (argsL := argsL) (rest := rest) (hlen _ hsigM) hstack hdg
  rcases hK m meth c ⟨T.setVm vm₁, locs, cells, slots⟩ { g with stack := rest } (.invokevirtual index) mk (Value.ref b :: argsL).toArray X₁ hg hsize hdg hW (X₁.named hnamed) (hpre vm₁ X₁.warmed) with ⟨v, B, X', hpost, hsteps⟩ | ⟨q, B, X', hpost, hsteps⟩
  · exact Or.inl ⟨v, vm₁, B, X₁.warmed, X', hpost, fun target h => hstep₁ _ fun acts => by rw [doInvoke_state]; exact hsteps.trans h⟩
  · exact Or.inr ⟨q, vm₁, B, X₁.warmed, X', hpost, hstep₁ _ fun acts => by rw [doInvoke_state]; exact hsteps⟩
theorem vx_callSX (X : Stand p l e R s m args below meth c T locs cells slots) (hexec : p.tables.exec = Jvm.exec) {own : String} {index : Nat} {y : MethodName} {bytes : ByteArray} {maxL : Nat} {ret : Option FieldType} {hh : List (Nat × Nat × Nat × Nat)}
    (hown : s.vm.findClass own = some m.cls) (hlink : (Cond.methodLink own index y).before args s = true) (hstat : (Cond.static y).before args s = true) (hinit : (Cond.initialized y.cls).before args s = true)
    (hcode : (Cond.codeWith y bytes maxL ret hh).before args s = true) (hy : y.cls ≠ "java/lang/invoke/MethodHandle" ∧ y.cls ≠ "java/lang/invoke/VarHandle")
    {W9 : Nat} {Pre : Pt → Array Value → Prop} {Post : Pt → Array Value → Option Value → Pt → Prop} {PostX : Pt → Array Value → Addr → Pt → Prop} (hK : vx_Back l R p e below s args y 3 W9 Pre Post PostX)
    {g : JFrame} (hg : g.method = m) (hsize : g.locals.size = c.maxLocals) {argsL rest : List Value} (hlen : ∀ sig, parseMethodDescriptor y.desc = some sig → argsL.length = sig.parameters.length)
    (hstack : g.stack = argsL.reverse ++ rest) (hW : 2 * g.monitorRoom + (rest.map fun v => v.category).sum ≤ W9) (hdg : decode c.code g.pc = .ok (.invokestatic index, 3))
    (hpre : ∀ vm₁, s.WarmedH vm₁ → Pre ⟨T.setVm vm₁, locs, cells, slots⟩ argsL.toArray) :
    (∃ (v : Option Value) (vm₁ : Vm) (B : Pt), s.WarmedH vm₁ ∧ Stand p l e R s m args below meth c B.U B.locs B.cells B.slots ∧ Post ⟨T.setVm vm₁, locs, cells, slots⟩ argsL.toArray v B ∧
      ∀ target, Steps p.tables e below (B.U.setTop { g with pc := g.pc + 3, stack := v.toList ++ rest }) target → Steps p.tables e below (T.setTop g) target) ∨
    (∃ (q : Addr) (vm₁ : Vm) (B : Pt), s.WarmedH vm₁ ∧ Stand p l e R s m args below meth c B.U B.locs B.cells B.slots ∧ PostX ⟨T.setVm vm₁, locs, cells, slots⟩ argsL.toArray q B ∧
      Steps p.tables e below (T.setTop g) ((B.U.setTop { g with stack := rest }).pushFrame (.throwing q))) := by
  obtain ⟨mk, methM, cM, hnamed, hmethM, -, -, -, -, -, -, hsigM⟩ := Cond.codeWith_spec hcode
  have hstatic : methM.isStatic = true := Cond.static_spec hnamed hmethM hstat
  obtain ⟨kP, hkP, -⟩ := className_of_methodNamed hnamed
  have hinitP : kP.init = .initialized := Cond.initialized_spec (findClass_of_methodNamed hnamed) hkP hinit
  obtain ⟨vm₁, X₁, hstep₁⟩ := X.invokestatic hexec hown hlink hnamed hmethM hstatic hkP hinitP hy (g := g) hg (argsL := argsL) (rest := rest) (hlen _ hsigM) hstack hdg
  rcases hK m meth c ⟨T.setVm vm₁, locs, cells, slots⟩ { g with stack := rest } (.invokestatic index) mk argsL.toArray X₁ hg hsize hdg hW (X₁.named hnamed) (hpre vm₁ X₁.warmed) with ⟨v, B, X', hpost, hsteps⟩ | ⟨q, B, X', hpost, hsteps⟩
  · exact Or.inl ⟨v, vm₁, B, X₁.warmed, X', hpost, fun target h => hstep₁ _ fun acts => by rw [doInvoke_state]; exact hsteps.trans h⟩
  · exact Or.inr ⟨q, vm₁, B, X₁.warmed, X', hpost, hstep₁ _ fun acts => by rw [doInvoke_state]; exact hsteps⟩
theorem vx_callVW (X : Stand p l e R s m args below meth c T locs cells slots) (hexec : p.tables.exec = Jvm.exec) {own C : String} {index : Nat} {y : MethodName} {bytes : ByteArray} {maxL : Nat} {ret : Option FieldType} {hh : List (Nat × Nat × Nat × Nat)}
    (hown : s.vm.findClass own = some m.cls) (hlink : (Cond.methodLink own index y).before args s = true) (hinst : (Cond.instanceMethod y).before args s = true) (hsel : (Cond.selects C y y).before args s = true)
    (hcode : (Cond.codeWith y bytes maxL ret hh).before args s = true) (hy : y.cls ≠ "java/lang/invoke/MethodHandle" ∧ y.cls ≠ "java/lang/invoke/VarHandle")
    {W9 : Nat} {Pre : Pt → Array Value → Prop} {Post : Pt → Array Value → Option Value → Pt → Prop} (hK : Back l R p e below s args y 3 W9 Pre Post)
    {b : Addr} {cellB : Cell} (hcell : T.heap[b]? = some cellB) (hobj : cellB.vm.isStatics = false) (hcls : s.vm.findClass C = some cellB.cls)
    {g : JFrame} (hg : g.method = m) (hsize : g.locals.size = c.maxLocals) {argsL rest : List Value} (hlen : ∀ sig, parseMethodDescriptor y.desc = some sig → argsL.length = sig.parameters.length)
    (hstack : g.stack = argsL.reverse ++ .ref b :: rest) (hW : 2 * g.monitorRoom + (rest.map fun v => v.category).sum ≤ W9) (hdg : decode c.code g.pc = .ok (.invokevirtual index, 3))
    (hpre : ∀ vm₁, s.WarmedH vm₁ → Pre ⟨T.setVm vm₁, locs, cells, slots⟩ (Value.ref b :: argsL).toArray) :
    ∃ (v : Option Value) (vm₁ : Vm) (B : Pt), s.WarmedH vm₁ ∧ Stand p l e R s m args below meth c B.U B.locs B.cells B.slots ∧ Post ⟨T.setVm vm₁, locs, cells, slots⟩ (Value.ref b :: argsL).toArray v B ∧
      ∀ target, Steps p.tables e below (B.U.setTop { g with pc := g.pc + 3, stack := v.toList ++ rest }) target → Steps p.tables e below (T.setTop g) target := by
  obtain ⟨mk, methM, hnamed, hmethM, hstM, habM⟩ := Cond.instanceMethod_spec hinst
  obtain ⟨m8, methM', cM, hn8, hmethM', -, -, -, -, -, -, hsigM⟩ := Cond.codeWith_spec hcode
  cases Option.some.inj (hn8.symm.trans hnamed)
  cases hmethM.symm.trans hmethM'
  obtain ⟨c2, r2, m2, q1, q2, q3, q4, kP, hkP, hkPi⟩ := Cond.selects_spec hsel
  cases hcls.symm.trans q1
  cases (State.methodFound?_of_named hnamed hy).symm.trans q2
  cases hnamed.symm.trans q3
  have hselP : selectMethod e.platform s.vm cellB.cls mk = .method mk := by rw [Launch.admits_selectMethod X.admits]; exact q4
  obtain ⟨vm₁, X₁, hstep₁⟩ := X.invokevirtual hexec hown hlink hnamed hmethM hstM hkP hkPi hy (a := b) (cell := cellB) hcell
    (fun z h => by rw [h] at hobj; cases hobj) hselP hmethM habM hkP hkPi (g := g) hg (argsL := argsL) (rest := rest) (hlen _ hsigM) hstack hdg
  obtain ⟨v, B, X', hpost, hsteps⟩ := hK m meth c ⟨T.setVm vm₁, locs, cells, slots⟩ { g with stack := rest } (.invokevirtual index) mk (Value.ref b :: argsL).toArray X₁ hg hsize hdg hW (X₁.named hnamed) (hpre vm₁ X₁.warmed)
  exact ⟨v, vm₁, B, X₁.warmed, X', hpost, fun target h => hstep₁ _ fun acts => by rw [doInvoke_state]; exact hsteps.trans h⟩
abbrev vx_CVW (R : Room) (s : State) (args : Array Value) (own C : String) (index : Nat) (y : MethodName) (bytes : ByteArray) (maxL : Nat) (ret : Option FieldType) (hh : List (Nat × Nat × Nat × Nat)) (ws : List Cond) (rm : Room) (mc ms n : Nat) : Prop :=
  (rm.cells = mc ∧ rm.slots = ms ∧ rm.frames + 1 ≤ R.frames ∧ 8 + (maxL + 11) + rm.locals ≤ R.locals ∧ (∀ w ∈ ws, ∀ (a' : Array Value) (U : State), s.WarmedH U.vm → w.before a' U = true) ∧ Cond.codeWith y bytes maxL ret hh ∈ ws) ∧
  (Cond.codeWith y bytes maxL ret hh).before args s = true ∧ (Cond.initialized y.cls).before args s = true ∧ (y.cls ≠ "java/lang/invoke/MethodHandle" ∧ y.cls ≠ "java/lang/invoke/VarHandle") ∧
  (∀ sig, parseMethodDescriptor y.desc = some sig → n = sig.parameters.length) ∧ (Cond.methodLink own index y).before args s = true ∧ (Cond.instanceMethod y).before args s = true ∧ (Cond.selects C y y).before args s = true
theorem vx_cwVW {own C : String} {index maxL mc ms : Nat} {y : MethodName} {bytes : ByteArray} {ret : Option FieldType} {hh : List (Nat × Nat × Nat × Nat)} {Ts ws ws' : List Cond} {rm : Room} (n : Nat) (ht : ∀ w ∈ Ts, w.before args s = true) (hT : GoodIn Ts (wsV own index C y ws)) (hw : ws = Cond.codeWith y bytes maxL ret hh :: ws') (hrc : rm.cells = mc) (hrs : rm.slots = ms)
    (hd : y.cls = C ∧ y.cls ≠ "java/lang/invoke/MethodHandle" ∧ y.cls ≠ "java/lang/invoke/VarHandle" ∧ (parseMethodDescriptor y.desc).map (fun d => d.parameters.length) = some n) (hR : rm.frames + 1 ≤ R.frames ∧ 8 + (maxL + 11) + rm.locals ≤ R.locals) :
    vx_CVW R s args own C index y bytes maxL ret hh ws rm mc ms n := by
  obtain ⟨hC, hd⟩ := hd
  subst hC
  have ok : ∀ w ∈ wsV own index y.cls y ws, w.before args s = true := fun w h => ht w (hT w h).1
  have hG : GoodIn Ts ws := fun w h => hT w (by unfold wsV; exact List.mem_append_right _ h)
  have hc : Cond.codeWith y bytes maxL ret hh ∈ ws := by rw [hw]; exact List.mem_cons_self
  refine ⟨⟨hrc, hrs, hR.1, hR.2, pay_in ht hG, hc⟩, ht _ (hG _ hc).1, ok _ (by simp [wsV]), ⟨hd.1, hd.2.1⟩, fun sig h => ?_, ok _ (by simp [wsV]), ok _ (by simp [wsV]), ok _ (by simp [wsV])⟩
  have h2 := hd.2.2
  rw [h] at h2
  exact (Option.some.inj h2).symm
theorem vx_runVW {y : MethodName} {bytes cc : ByteArray} {maxL nL mc ms n index : Nat} {ret : Option FieldType} {hh : List (Nat × Nat × Nat × Nat)} {ws : List Cond} {rm : Room} {Pc : Array Value → State → Prop} {Qc : Array Value → State → Outcome → State → Prop} {free : Addr → Prop} {Ts : List Cond} {own C : String} {b : Addr} {As rest : List Value} {g : JFrame}
    (S : CallFix p m c cc nL s args Ts own) (hM : Met l y ws rm Pc Qc mc ms free) (cw : vx_CVW R s args own C index y bytes maxL ret hh ws rm mc ms n) (hp : PreV s H C b Pc As)
    (hg : g.method = m) (hn : As.length = n) (hsize : g.locals.size = nL) (hstack : g.stack = As.reverse ++ .ref b :: rest) (hW : 2 * g.monitorRoom + (rest.map fun v => v.category).sum ≤ 8) (hdg : decode cc g.pc = .ok (.invokevirtual index, 3)) (hf : cells + mc ≤ R.cells ∧ slots + ms ≤ R.slots) :
    va_Run p l e R s m args below meth c H locs cells slots mc ms g rest (Qc (Value.ref b :: As).toArray) free := by
  obtain ⟨⟨hrc, hrs, hfr, hlo, hws, hcw⟩, hcode, hini, hy, hlen, hl, hin, hse⟩ := cw
  have hK : Back l R p e below s args y 3 8 (PreOf R mc ms Pc) (PostOf Qc mc ms free) := va_backW (hh := hh) (bytes := bytes) (maxL := maxL) (ret := ret) hM hp.1 hrc hrs hfr hlo hws hcw (fun a' U hW => word_at hW (Or.inl (by first | rfl | simp [Cond.onTables, Cond.keeps, Cond.steady])) hini)
  obtain ⟨hx, hb, hml, ho, -⟩ := S
  obtain ⟨-, ⟨cellB, hcB, hoB, hclB⟩, hPc⟩ := hp
  intro T hT X
  obtain ⟨v, vm₁, ⟨U', l2, c2, s2⟩, hW₁, X', ⟨g', mk, t, L, e1, e2, hq, h1, hL, h2, h3⟩, st⟩ := vx_callVW X hx (C := C) (hh := hh) (bytes := bytes) (maxL := maxL) (ret := ret) ho hl hin hse hcode hy hK (by rw [hT]; exact hcB) hoB hclB hg (hsize.trans hml.symm) (argsL := As) (rest := rest) (fun sig h => hn.trans (hlen sig h)) hstack hW (by rw [hb]; exact hdg)
    (fun vm₁ hW₁ => ⟨hf.1, hf.2, hPc (T.setVm vm₁) hT hW₁⟩)
  dsimp only [Pt.U, Pt.locs, Pt.cells, Pt.slots] at X' e1 e2 h1 h2 h3 st
  subst h1; subst h2; subst h3
  exact ⟨v, (T.setVm vm₁).calling g' mk (Value.ref b :: As).toArray, t, U', L, hT, X', hL, e1, e2, hq, st⟩
section
variable {y : MethodName} {bytes cc : ByteArray} {maxL nL mc ms n index : Nat} {ret : Option FieldType} {ws : List Cond} {rm : Room} {Pc : Array Value → State → Prop} {Qc : Array Value → State → Outcome → State → Prop} {XC : String → State → State → Prop} {free : Addr → Prop} {Ts : List Cond} {own C : String} {b : Addr} {As rest : List Value} {g : JFrame}
theorem vx_runVX {hh : List (Nat × Nat × Nat × Nat)} (S : CallFix p m c cc nL s args Ts own) (hM : vx_Met l y ws rm Pc Qc XC mc ms free) (cw : vx_CVW R s args own C index y bytes maxL ret hh ws rm mc ms n) (hp : PreV s H C b Pc As)
    (hg : g.method = m) (hn : As.length = n) (hsize : g.locals.size = nL) (hstack : g.stack = As.reverse ++ .ref b :: rest) (hW : 2 * g.monitorRoom + (rest.map fun v => v.category).sum ≤ 8) (hdg : decode cc g.pc = .ok (.invokevirtual index, 3)) (hf : cells + mc ≤ R.cells ∧ slots + ms ≤ R.slots) :
    vx_Run p l e R s m args below meth c H locs cells slots mc ms g rest (Qc (Value.ref b :: As).toArray) XC free := by
  obtain ⟨⟨hrc, hrs, hfr, hlo, hws, hcw⟩, hcode, hini, hy, hlen, hl, hin, hse⟩ := cw
  have hK : vx_Back l R p e below s args y 3 8 (PreOf R mc ms Pc) (PostOf Qc mc ms free) (vx_Post XC mc ms free) := vx_backW (hh := hh) (bytes := bytes) (maxL := maxL) (ret := ret) hM hp.1 hrc hrs hfr hlo hws hcw (fun a' U hW => word_at hW (Or.inl (by first | rfl | simp [Cond.onTables, Cond.keeps, Cond.steady])) hini)
  obtain ⟨hx, hb, hml, ho, -⟩ := S
  obtain ⟨-, ⟨cellB, hcB, hoB, hclB⟩, hPc⟩ := hp
  intro T hT X
  rcases vx_callVX X hx (C := C) (hh := hh) (bytes := bytes) (maxL := maxL) (ret := ret) ho hl hin hse hcode hy hK (by rw [hT]; exact hcB) hoB hclB hg (hsize.trans hml.symm) (argsL := As) (rest := rest) (fun sig h => hn.trans (hlen sig h)) hstack hW (by rw [hb]; exact hdg)
    (fun vm₁ hW₁ => ⟨hf.1, hf.2, hPc (T.setVm vm₁) hT hW₁⟩) with ⟨v, vm₁, ⟨U', l2, c2, s2⟩, hW₁, X', ⟨g', mk, t, L, e1, e2, hq, h1, hL, h2, h3⟩, st⟩ | ⟨q, vm₁, ⟨U', l2, c2, s2⟩, hW₁, X', ⟨g', mk, t, L, E, ce, e1, e2, hq, hce, hcv, hcl, h1, hL, h2, h3⟩, st⟩
  · dsimp only [Pt.U, Pt.locs, Pt.cells, Pt.slots] at X' e1 e2 h1 h2 h3 st
    subst h1; subst h2; subst h3
    exact Or.inl ⟨v, (T.setVm vm₁).calling g' mk (Value.ref b :: As).toArray, t, U', L, hT, X', hL, e1, e2, hq, st⟩
  · dsimp only [Pt.U, Pt.locs, Pt.cells, Pt.slots] at X' e1 e2 h1 h2 h3 st hcl
    subst h1; subst h2; subst h3
    exact Or.inr ⟨q, (T.setVm vm₁).calling g' mk (Value.ref b :: As).toArray, t, U', L, E, ce, hT, X', hL, e1, e2, hq, hce, hcv, vx_cls hW₁ hcl, st⟩
theorem vx_runSX {hh : List (Nat × Nat × Nat × Nat)} (S : CallFix p m c cc nL s args Ts own) (hM : vx_Met l y ws rm Pc Qc XC mc ms free) (cw : vx_CSW R s args own index y bytes maxL ret hh ws rm mc ms n) (hp : PreS s H Pc As)
    (hg : g.method = m) (hn : As.length = n) (hsize : g.locals.size = nL) (hstack : g.stack = As.reverse ++ rest) (hW : 2 * g.monitorRoom + (rest.map fun v => v.category).sum ≤ 8) (hdg : decode cc g.pc = .ok (.invokestatic index, 3)) (hf : cells + mc ≤ R.cells ∧ slots + ms ≤ R.slots) :
    vx_Run p l e R s m args below meth c H locs cells slots mc ms g rest (Qc As.toArray) XC free := by
  obtain ⟨⟨hrc, hrs, hfr, hlo, hws, hcw⟩, hcode, hini, hy, hlen, hl, hstt⟩ := cw
  have hK : vx_Back l R p e below s args y 3 8 (PreOf R mc ms Pc) (PostOf Qc mc ms free) (vx_Post XC mc ms free) := vx_backW (hh := hh) (bytes := bytes) (maxL := maxL) (ret := ret) hM hp.1 hrc hrs hfr hlo hws hcw (fun a' U hW => word_at hW (Or.inl (by first | rfl | simp [Cond.onTables, Cond.keeps, Cond.steady])) hini)
  obtain ⟨hx, hb, hml, ho, -⟩ := S
  intro T hT X
  rcases vx_callSX X hx (hh := hh) (bytes := bytes) (maxL := maxL) (ret := ret) ho hl hstt hini hcode hy hK hg (hsize.trans hml.symm) (argsL := As) (rest := rest) (fun sig h => hn.trans (hlen sig h)) hstack hW (by rw [hb]; exact hdg)
    (fun vm₁ hW₁ => ⟨hf.1, hf.2, hp.2 (T.setVm vm₁) hT hW₁⟩) with ⟨v, vm₁, ⟨U', l2, c2, s2⟩, hW₁, X', ⟨g', mk, t, L, e1, e2, hq, h1, hL, h2, h3⟩, st⟩ | ⟨q, vm₁, ⟨U', l2, c2, s2⟩, hW₁, X', ⟨g', mk, t, L, E, ce, e1, e2, hq, hce, hcv, hcl, h1, hL, h2, h3⟩, st⟩
  · dsimp only [Pt.U, Pt.locs, Pt.cells, Pt.slots] at X' e1 e2 h1 h2 h3 st
    subst h1; subst h2; subst h3
    exact Or.inl ⟨v, (T.setVm vm₁).calling g' mk As.toArray, t, U', L, hT, X', hL, e1, e2, hq, st⟩
  · dsimp only [Pt.U, Pt.locs, Pt.cells, Pt.slots] at X' e1 e2 h1 h2 h3 st hcl
    subst h1; subst h2; subst h3
    exact Or.inr ⟨q, (T.setVm vm₁).calling g' mk As.toArray, t, U', L, E, ce, hT, X', hL, e1, e2, hq, hce, hcv, vx_cls hW₁ hcl, st⟩
end
end VXH
theorem vx_ofWH {l : Launch} {y : MethodName} {ws ws' : List Cond} {rm : Room} {Pc : Array Value → State → Prop} {Qc : Array Value → State → Outcome → State → Prop} {XC : String → State → State → Prop} {mc ms : Nat} {free : Addr → Prop} {cc : ByteArray} {maxL : Nat} {ret : Option FieldType} {hh : List (Nat × Nat × Nat × Nat)}
    (hy : plainName y.cls = true) (hw : ws = Cond.codeWith y cc maxL ret hh :: ws')
    (body : ∀ p e s m args below meth c s₁, BodyLoose p l y (headSpec ws rm) cc maxL ret e s m args below meth c s₁ → c.maxLocals = maxL → Pc args s →
      W p l e (headSpec ws rm).room s m args below meth c s.heap [] 0 0 (vx_MQ below Qc XC args s mc ms free) (entryFrame m args maxL)) : vx_Met l y ws rm Pc Qc XC mc ms free := by
  refine MetFree.of_bodyS (code := cc) (maxLocals := maxL) (ret := ret) hy ?_ ?_
  · intro args s m h hn
    obtain ⟨m9, meth, c, hn9, h1, h2, h3, h4, -, h5, h6, -⟩ := Cond.codeWith_spec (atoms_spec (ws := ws) h _ (by rw [hw]; exact List.mem_cons_self))
    cases hn.symm.trans hn9
    exact ⟨meth, c, h1, h2, h3, h4, h5, h6⟩
  · intro p e s m args below meth c s₁ B hml hP _
    have hh0 : s₁.heap = s.heap := by rw [B.state]; rfl
    obtain ⟨t, a1, o, b1, b2, b3⟩ := body p e s m args below meth c s₁ B hml hP s₁ hh0 (Stand.of_body B)
    exact ⟨t, o, a1, b1, b2, b3⟩
/-! ===== END ===== -/

/-! ===== BEGIN printed: names, fields, word lists, decode rows ===== -/
def RX0 : String := "Coasterland$Block"
def TX0 : u_T := fun k => match k with
  | 0 => ("Coasterland$Block", "kind", "C", true)
  | 1 => ("Coasterland$Block", "length", "I", true)
  | 2 => ("Coasterland$Block", "rise", "I", true)
  | 3 => ("Coasterland$Block", "bend", "I", true)
  | 4 => ("Coasterland$Block", "sensor0", "C", false)
  | _ => ("Coasterland$Block", "sensor1", "C", false)
def tyX0 : Nat → FieldType := fun k => match k with
  | 0 => .char
  | 1 => .int
  | 2 => .int
  | 3 => .int
  | 4 => .char
  | _ => .char
abbrev wsX00 : List Cond := u_ws RX0 TX0 6
theorem nmX0 : ∀ a, a < 6 → ∀ b, b < 6 → a ≠ b → (TX0 a).2.1 ≠ (TX0 b).2.1 := by decide +kernel
theorem tyX0_ok : ∀ k, k < 6 → parseFieldDescriptor (TX0 k).2.2.1 = some (tyX0 k) := by decide +kernel
abbrev cX0_init : ByteArray := prog_2_method_1_code
def yX0_init : MethodName := ⟨RX0, "<init>", "(CIII)V"⟩
abbrev cX0_isStop : ByteArray := prog_2_method_2_code
def yX0_isStop : MethodName := ⟨RX0, "isStop", "()Z"⟩
abbrev cX0_energyBehind : ByteArray := prog_2_method_3_code
def yX0_energyBehind : MethodName := ⟨RX0, "energyBehind", "(II)I"⟩
abbrev cX0_forceFor : ByteArray := prog_2_method_4_code
def yX0_forceFor : MethodName := ⟨RX0, "forceFor", "(I)I"⟩
abbrev cX0_sensor : ByteArray := prog_2_method_5_code
def yX0_sensor : MethodName := ⟨RX0, "sensor", "(I)C"⟩
abbrev cX0_tellSensor : ByteArray := prog_2_method_6_code
def yX0_tellSensor : MethodName := ⟨RX0, "tellSensor", "(IC)V"⟩
abbrev cX0_isSeenBy : ByteArray := prog_2_method_7_code
def yX0_isSeenBy : MethodName := ⟨RX0, "isSeenBy", "(IZ)Z"⟩
def RX1 : String := "Coasterland$Guest"
def TX1 : u_T := fun k => match k with
  | 0 => ("Coasterland$Guest", "money", "I", false)
  | 1 => ("Coasterland$Guest", "height", "I", true)
  | 2 => ("Coasterland$Guest", "group", "I", true)
  | 3 => ("Coasterland$Guest", "hunger", "I", false)
  | 4 => ("Coasterland$Guest", "nausea", "I", false)
  | 5 => ("Coasterland$Guest", "ridesDone", "I", false)
  | 6 => ("Coasterland$Guest", "place", "C", false)
  | 7 => ("Coasterland$Guest", "returnRide", "I", false)
  | 8 => ("Coasterland$Guest", "returnTick", "I", false)
  | 9 => ("Coasterland$Guest", "line", "LCoasterland$Line;", false)
  | _ => ("Coasterland$Guest", "paid", "I", false)
def tyX1 : Nat → FieldType := fun k => match k with
  | 0 => .int
  | 1 => .int
  | 2 => .int
  | 3 => .int
  | 4 => .int
  | 5 => .int
  | 6 => .char
  | 7 => .int
  | 8 => .int
  | 9 => .object "Coasterland$Line"
  | _ => .int
abbrev wsX10 : List Cond := u_ws RX1 TX1 11
theorem nmX1 : ∀ a, a < 11 → ∀ b, b < 11 → a ≠ b → (TX1 a).2.1 ≠ (TX1 b).2.1 := by decide +kernel
theorem tyX1_ok : ∀ k, k < 11 → parseFieldDescriptor (TX1 k).2.2.1 = some (tyX1 k) := by decide +kernel
abbrev cX1_init : ByteArray := prog_3_method_1_code
def yX1_init : MethodName := ⟨RX1, "<init>", "(III)V"⟩
abbrev cX1_mayQueue : ByteArray := prog_3_method_2_code
def yX1_mayQueue : MethodName := ⟨RX1, "mayQueue", "(LCoasterland$Ride;)Z"⟩
abbrev cX1_canUseReturn : ByteArray := prog_3_method_3_code
def yX1_canUseReturn : MethodName := ⟨RX1, "canUseReturn", "(II)Z"⟩
abbrev cX1_comesWith : ByteArray := prog_3_method_4_code
def yX1_comesWith : MethodName := ⟨RX1, "comesWith", "(LCoasterland$Guest;)Z"⟩
abbrev cX1_joinLine : ByteArray := prog_3_method_5_code
def yX1_joinLine : MethodName := ⟨RX1, "joinLine", "(LCoasterland$Line;I)V"⟩
abbrev cX1_leaveLine : ByteArray := prog_3_method_6_code
def yX1_leaveLine : MethodName := ⟨RX1, "leaveLine", "()I"⟩
abbrev cX1_goAboard : ByteArray := prog_3_method_7_code
def yX1_goAboard : MethodName := ⟨RX1, "goAboard", "()V"⟩
abbrev cX1_haveMeal : ByteArray := prog_3_method_8_code
def yX1_haveMeal : MethodName := ⟨RX1, "haveMeal", "()V"⟩
abbrev cX1_finishRide : ByteArray := prog_3_method_9_code
def yX1_finishRide : MethodName := ⟨RX1, "finishRide", "(I)V"⟩
abbrev cX1_isHungrierThan : ByteArray := prog_3_method_10_code
def yX1_isHungrierThan : MethodName := ⟨RX1, "isHungrierThan", "(LCoasterland$Guest;)Z"⟩
def RX2 : String := "Coasterland$Line"
def TX2 : u_T := fun k => match k with
  | 0 => ("Coasterland$Line", "places", "[LCoasterland$Guest;", true)
  | _ => ("Coasterland$Line", "size", "I", false)
def tyX2 : Nat → FieldType := fun k => match k with
  | 0 => .array (.object "Coasterland$Guest")
  | _ => .int
abbrev wsX20 : List Cond := u_ws RX2 TX2 2
theorem nmX2 : ∀ a, a < 2 → ∀ b, b < 2 → a ≠ b → (TX2 a).2.1 ≠ (TX2 b).2.1 := by decide +kernel
theorem tyX2_ok : ∀ k, k < 2 → parseFieldDescriptor (TX2 k).2.2.1 = some (tyX2 k) := by decide +kernel
abbrev cX2_init : ByteArray := prog_4_method_1_code
def yX2_init : MethodName := ⟨RX2, "<init>", "()V"⟩
abbrev cX2_append : ByteArray := prog_4_method_2_code
def yX2_append : MethodName := ⟨RX2, "append", "(LCoasterland$Guest;)V"⟩
abbrev cX2_first : ByteArray := prog_4_method_3_code
def yX2_first : MethodName := ⟨RX2, "first", "()LCoasterland$Guest;"⟩
abbrev cX2_partyOf : ByteArray := prog_4_method_4_code
def yX2_partyOf : MethodName := ⟨RX2, "partyOf", "(LCoasterland$Guest;)I"⟩
abbrev cX2_takeOneOf : ByteArray := prog_4_method_5_code
def yX2_takeOneOf : MethodName := ⟨RX2, "takeOneOf", "(LCoasterland$Guest;)LCoasterland$Guest;"⟩
abbrev cX2_takeOut : ByteArray := prog_4_method_6_code
def yX2_takeOut : MethodName := ⟨RX2, "takeOut", "(LCoasterland$Guest;)V"⟩
abbrev cX2_takeAt : ByteArray := prog_4_method_7_code
def yX2_takeAt : MethodName := ⟨RX2, "takeAt", "(I)V"⟩
abbrev cX2_countOf : ByteArray := prog_4_method_8_code
def yX2_countOf : MethodName := ⟨RX2, "countOf", "(LCoasterland$Guest;)I"⟩
def RX3 : String := "Coasterland$Ride"
def TX3 : u_T := fun k => match k with
  | 0 => ("Coasterland$Ride", "height", "I", true)
  | 1 => ("Coasterland$Ride", "windLimit", "I", true)
  | 2 => ("Coasterland$Ride", "price", "I", true)
  | 3 => ("Coasterland$Ride", "ring", "LCoasterland$Ring;", true)
  | 4 => ("Coasterland$Ride", "trains", "[LCoasterland$Train;", true)
  | 5 => ("Coasterland$Ride", "trainCount", "I", false)
  | 6 => ("Coasterland$Ride", "longLine", "LCoasterland$Line;", true)
  | 7 => ("Coasterland$Ride", "singles", "LCoasterland$Line;", true)
  | 8 => ("Coasterland$Ride", "returns", "LCoasterland$Line;", true)
  | 9 => ("Coasterland$Ride", "operator", "I", false)
  | 10 => ("Coasterland$Ride", "inspected", "Z", false)
  | 11 => ("Coasterland$Ride", "leftSinceInspection", "I", false)
  | 12 => ("Coasterland$Ride", "leftAtAll", "I", false)
  | 13 => ("Coasterland$Ride", "locks", "I", false)
  | _ => ("Coasterland$Ride", "tripped", "Z", false)
def tyX3 : Nat → FieldType := fun k => match k with
  | 0 => .int
  | 1 => .int
  | 2 => .int
  | 3 => .object "Coasterland$Ring"
  | 4 => .array (.object "Coasterland$Train")
  | 5 => .int
  | 6 => .object "Coasterland$Line"
  | 7 => .object "Coasterland$Line"
  | 8 => .object "Coasterland$Line"
  | 9 => .int
  | 10 => .boolean
  | 11 => .int
  | 12 => .int
  | 13 => .int
  | _ => .boolean
abbrev wsX30 : List Cond := u_ws RX3 TX3 15
theorem nmX3 : ∀ a, a < 15 → ∀ b, b < 15 → a ≠ b → (TX3 a).2.1 ≠ (TX3 b).2.1 := by decide +kernel
theorem tyX3_ok : ∀ k, k < 15 → parseFieldDescriptor (TX3 k).2.2.1 = some (tyX3 k) := by decide +kernel
abbrev cX3_init : ByteArray := prog_5_method_1_code
def yX3_init : MethodName := ⟨RX3, "<init>", "(III)V"⟩
abbrev cX3_trainOrNull : ByteArray := prog_5_method_2_code
def yX3_trainOrNull : MethodName := ⟨RX3, "trainOrNull", "(I)LCoasterland$Train;"⟩
abbrev cX3_lineOrNull : ByteArray := prog_5_method_3_code
def yX3_lineOrNull : MethodName := ⟨RX3, "lineOrNull", "(C)LCoasterland$Line;"⟩
abbrev cX3_putTrain : ByteArray := prog_5_method_4_code
def yX3_putTrain : MethodName := ⟨RX3, "putTrain", "(LCoasterland$Train;)I"⟩
abbrev cX3_isLockedBy : ByteArray := prog_5_method_5_code
def yX3_isLockedBy : MethodName := ⟨RX3, "isLockedBy", "(I)Z"⟩
abbrev cX3_trainIn : ByteArray := prog_5_method_6_code
def yX3_trainIn : MethodName := ⟨RX3, "trainIn", "(I)LCoasterland$Train;"⟩
abbrev cX3_trainInStation : ByteArray := prog_5_method_7_code
def yX3_trainInStation : MethodName := ⟨RX3, "trainInStation", "()LCoasterland$Train;"⟩
abbrev cX3_countTrains : ByteArray := prog_5_method_8_code
def yX3_countTrains : MethodName := ⟨RX3, "countTrains", "(C)I"⟩
abbrev cX3_hasStalledTrain : ByteArray := prog_5_method_9_code
def yX3_hasStalledTrain : MethodName := ⟨RX3, "hasStalledTrain", "()Z"⟩
abbrev cX3_isBlockHeld : ByteArray := prog_5_method_10_code
def yX3_isBlockHeld : MethodName := ⟨RX3, "isBlockHeld", "(I)Z"⟩
abbrev cX3_blocksWithTrains : ByteArray := prog_5_method_11_code
def yX3_blocksWithTrains : MethodName := ⟨RX3, "blocksWithTrains", "()I"⟩
abbrev cX3_blocksSeenBy : ByteArray := prog_5_method_12_code
def yX3_blocksSeenBy : MethodName := ⟨RX3, "blocksSeenBy", "(I)I"⟩
abbrev cX3_isSeen : ByteArray := prog_5_method_13_code
def yX3_isSeen : MethodName := ⟨RX3, "isSeen", "(II)Z"⟩
abbrev cX3_processorsDiffer : ByteArray := prog_5_method_14_code
def yX3_processorsDiffer : MethodName := ⟨RX3, "processorsDiffer", "()Z"⟩
abbrev cX3_compareProcessors : ByteArray := prog_5_method_15_code
def yX3_compareProcessors : MethodName := ⟨RX3, "compareProcessors", "()V"⟩
abbrev cX3_whatKeepsInStation : ByteArray := prog_5_method_16_code
def yX3_whatKeepsInStation : MethodName := ⟨RX3, "whatKeepsInStation", "(IZ)C"⟩
abbrev cX3_whatKeepsInStop : ByteArray := prog_5_method_17_code
def yX3_whatKeepsInStop : MethodName := ⟨RX3, "whatKeepsInStop", "(LCoasterland$Train;I)C"⟩
abbrev cX3_isPathFree : ByteArray := prog_5_method_18_code
def yX3_isPathFree : MethodName := ⟨RX3, "isPathFree", "(LCoasterland$Train;)Z"⟩
abbrev cX3_sendOff : ByteArray := prog_5_method_19_code
def yX3_sendOff : MethodName := ⟨RX3, "sendOff", "(LCoasterland$Train;)V"⟩
abbrev cX3_moveTrains : ByteArray := prog_5_method_20_code
def yX3_moveTrains : MethodName := ⟨RX3, "moveTrains", "(I)V"⟩
abbrev cX3_board : ByteArray := prog_5_method_21_code
def yX3_board : MethodName := ⟨RX3, "board", "(LCoasterland$Train;)I"⟩
abbrev cX3_boardOneByOne : ByteArray := prog_5_method_22_code
def yX3_boardOneByOne : MethodName := ⟨RX3, "boardOneByOne", "(LCoasterland$Line;LCoasterland$Train;)V"⟩
abbrev cX3_boardParties : ByteArray := prog_5_method_23_code
def yX3_boardParties : MethodName := ⟨RX3, "boardParties", "(LCoasterland$Train;)V"⟩
abbrev cX3_boardParty : ByteArray := prog_5_method_24_code
def yX3_boardParty : MethodName := ⟨RX3, "boardParty", "(LCoasterland$Guest;LCoasterland$Train;)V"⟩
abbrev cX3_areHoldsSound : ByteArray := prog_5_method_25_code
def yX3_areHoldsSound : MethodName := ⟨RX3, "areHoldsSound", "()Z"⟩
abbrev cX3_countInLines : ByteArray := prog_5_method_26_code
def yX3_countInLines : MethodName := ⟨RX3, "countInLines", "(LCoasterland$Guest;)I"⟩
abbrev cX3_countInTrains : ByteArray := prog_5_method_27_code
def yX3_countInTrains : MethodName := ⟨RX3, "countInTrains", "(LCoasterland$Guest;)I"⟩
def RX4 : String := "Coasterland$Ring"
def TX4 : u_T := fun k => match k with
  | 0 => ("Coasterland$Ring", "blocks", "[LCoasterland$Block;", true)
  | 1 => ("Coasterland$Ring", "blockCount", "I", false)
  | _ => ("Coasterland$Ring", "closed", "Z", false)
def tyX4 : Nat → FieldType := fun k => match k with
  | 0 => .array (.object "Coasterland$Block")
  | 1 => .int
  | _ => .boolean
abbrev wsX40 : List Cond := u_ws RX4 TX4 3
theorem nmX4 : ∀ a, a < 3 → ∀ b, b < 3 → a ≠ b → (TX4 a).2.1 ≠ (TX4 b).2.1 := by decide +kernel
theorem tyX4_ok : ∀ k, k < 3 → parseFieldDescriptor (TX4 k).2.2.1 = some (tyX4 k) := by decide +kernel
abbrev cX4_init : ByteArray := prog_6_method_1_code
def yX4_init : MethodName := ⟨RX4, "<init>", "()V"⟩
abbrev cX4_blockOrNull : ByteArray := prog_6_method_2_code
def yX4_blockOrNull : MethodName := ⟨RX4, "blockOrNull", "(I)LCoasterland$Block;"⟩
abbrev cX4_append : ByteArray := prog_6_method_3_code
def yX4_append : MethodName := ⟨RX4, "append", "(LCoasterland$Block;)I"⟩
abbrev cX4_canBeClosed : ByteArray := prog_6_method_4_code
def yX4_canBeClosed : MethodName := ⟨RX4, "canBeClosed", "()Z"⟩
abbrev cX4_countStops : ByteArray := prog_6_method_5_code
def yX4_countStops : MethodName := ⟨RX4, "countStops", "()I"⟩
abbrev cX4_next : ByteArray := prog_6_method_6_code
def yX4_next : MethodName := ⟨RX4, "next", "(I)I"⟩
abbrev cX4_isStop : ByteArray := prog_6_method_7_code
def yX4_isStop : MethodName := ⟨RX4, "isStop", "(I)Z"⟩
abbrev cX4_nextStop : ByteArray := prog_6_method_8_code
def yX4_nextStop : MethodName := ⟨RX4, "nextStop", "(I)I"⟩
abbrev cX4_pathBehind : ByteArray := prog_6_method_9_code
def yX4_pathBehind : MethodName := ⟨RX4, "pathBehind", "(I)I"⟩
abbrev cX4_isRunBad : ByteArray := prog_6_method_10_code
def yX4_isRunBad : MethodName := ⟨RX4, "isRunBad", "(II)Z"⟩
abbrev cX4_forceOfRun : ByteArray := prog_6_method_11_code
def yX4_forceOfRun : MethodName := ⟨RX4, "forceOfRun", "(II)I"⟩
def RX5 : String := "Coasterland$Train"
def TX5 : u_T := fun k => match k with
  | 0 => ("Coasterland$Train", "seats", "I", true)
  | 1 => ("Coasterland$Train", "riders", "[LCoasterland$Guest;", true)
  | 2 => ("Coasterland$Train", "riderCount", "I", false)
  | 3 => ("Coasterland$Train", "block", "I", false)
  | 4 => ("Coasterland$Train", "energyIn", "I", false)
  | 5 => ("Coasterland$Train", "state", "C", false)
  | 6 => ("Coasterland$Train", "held", "I", false)
  | 7 => ("Coasterland$Train", "climbing", "Z", false)
  | _ => ("Coasterland$Train", "greatestForce", "I", false)
def tyX5 : Nat → FieldType := fun k => match k with
  | 0 => .int
  | 1 => .array (.object "Coasterland$Guest")
  | 2 => .int
  | 3 => .int
  | 4 => .int
  | 5 => .char
  | 6 => .int
  | 7 => .boolean
  | _ => .int
abbrev wsX50 : List Cond := u_ws RX5 TX5 9
theorem nmX5 : ∀ a, a < 9 → ∀ b, b < 9 → a ≠ b → (TX5 a).2.1 ≠ (TX5 b).2.1 := by decide +kernel
theorem tyX5_ok : ∀ k, k < 9 → parseFieldDescriptor (TX5 k).2.2.1 = some (tyX5 k) := by decide +kernel
abbrev cX5_init : ByteArray := prog_7_method_1_code
def yX5_init : MethodName := ⟨RX5, "<init>", "(I)V"⟩
abbrev cX5_freeSeats : ByteArray := prog_7_method_2_code
def yX5_freeSeats : MethodName := ⟨RX5, "freeSeats", "()I"⟩
abbrev cX5_isLargerParty : ByteArray := prog_7_method_3_code
def yX5_isLargerParty : MethodName := ⟨RX5, "isLargerParty", "(I)Z"⟩
abbrev cX5_seat : ByteArray := prog_7_method_4_code
def yX5_seat : MethodName := ⟨RX5, "seat", "(LCoasterland$Guest;)V"⟩
abbrev cX5_holds : ByteArray := prog_7_method_5_code
def yX5_holds : MethodName := ⟨RX5, "holds", "(I)Z"⟩
abbrev cX5_leaveStop : ByteArray := prog_7_method_6_code
def yX5_leaveStop : MethodName := ⟨RX5, "leaveStop", "(I)V"⟩
abbrev cX5_moveOn : ByteArray := prog_7_method_7_code
def yX5_moveOn : MethodName := ⟨RX5, "moveOn", "(LCoasterland$Ring;I)V"⟩
abbrev cX5_standIn : ByteArray := prog_7_method_8_code
def yX5_standIn : MethodName := ⟨RX5, "standIn", "(I)V"⟩
abbrev cX5_letRidersOut : ByteArray := prog_7_method_9_code
def yX5_letRidersOut : MethodName := ⟨RX5, "letRidersOut", "()V"⟩
abbrev cX5_countOf : ByteArray := prog_7_method_10_code
def yX5_countOf : MethodName := ⟨RX5, "countOf", "(LCoasterland$Guest;)I"⟩
def RX6 : String := "Coasterland"
def TX6 : u_T := fun k => match k with
  | 0 => ("Coasterland", "rideList", "[LCoasterland$Ride;", true)
  | 1 => ("Coasterland", "rideCount", "I", false)
  | 2 => ("Coasterland", "certificateList", "[I", true)
  | 3 => ("Coasterland", "staffCount", "I", false)
  | 4 => ("Coasterland", "guestList", "[LCoasterland$Guest;", true)
  | 5 => ("Coasterland", "guestCount", "I", false)
  | 6 => ("Coasterland", "windNow", "I", false)
  | 7 => ("Coasterland", "tickNow", "I", false)
  | 8 => ("Coasterland", "struck", "Z", false)
  | 9 => ("Coasterland", "strikeTick", "I", false)
  | 10 => ("Coasterland", "brought", "J", false)
  | 11 => ("Coasterland", "takenIn", "J", false)
  | _ => ("Coasterland", "takenOut", "J", false)
def tyX6 : Nat → FieldType := fun k => match k with
  | 0 => .array (.object "Coasterland$Ride")
  | 1 => .int
  | 2 => .array .int
  | 3 => .int
  | 4 => .array (.object "Coasterland$Guest")
  | 5 => .int
  | 6 => .int
  | 7 => .int
  | 8 => .boolean
  | 9 => .int
  | 10 => .long
  | 11 => .long
  | _ => .long
abbrev wsX60 : List Cond := u_ws RX6 TX6 13
theorem nmX6 : ∀ a, a < 13 → ∀ b, b < 13 → a ≠ b → (TX6 a).2.1 ≠ (TX6 b).2.1 := by decide +kernel
theorem tyX6_ok : ∀ k, k < 13 → parseFieldDescriptor (TX6 k).2.2.1 = some (tyX6 k) := by decide +kernel
abbrev cX6_init : ByteArray := prog_1_method_1_code
def yX6_init : MethodName := ⟨RX6, "<init>", "()V"⟩
abbrev cX6_addRide : ByteArray := prog_1_method_2_code
def yX6_addRide : MethodName := ⟨RX6, "addRide", "(III)I"⟩
abbrev cX6_addBlock : ByteArray := prog_1_method_3_code
def yX6_addBlock : MethodName := ⟨RX6, "addBlock", "(ICIII)I"⟩
abbrev cX6_close : ByteArray := prog_1_method_4_code
def yX6_close : MethodName := ⟨RX6, "close", "(I)I"⟩
abbrev cX6_addTrain : ByteArray := prog_1_method_5_code
def yX6_addTrain : MethodName := ⟨RX6, "addTrain", "(II)I"⟩
abbrev cX6_addStaff : ByteArray := prog_1_method_6_code
def yX6_addStaff : MethodName := ⟨RX6, "addStaff", "(I)I"⟩
abbrev cX6_assign : ByteArray := prog_1_method_7_code
def yX6_assign : MethodName := ⟨RX6, "assign", "(II)I"⟩
abbrev cX6_inspect : ByteArray := prog_1_method_8_code
def yX6_inspect : MethodName := ⟨RX6, "inspect", "(II)I"⟩
abbrev cX6_lock : ByteArray := prog_1_method_9_code
def yX6_lock : MethodName := ⟨RX6, "lock", "(II)I"⟩
abbrev cX6_unlock : ByteArray := prog_1_method_10_code
def yX6_unlock : MethodName := ⟨RX6, "unlock", "(II)I"⟩
abbrev cX6_setSensor : ByteArray := prog_1_method_11_code
def yX6_setSensor : MethodName := ⟨RX6, "setSensor", "(IIIC)C"⟩
abbrev cX6_reset : ByteArray := prog_1_method_12_code
def yX6_reset : MethodName := ⟨RX6, "reset", "(I)I"⟩
abbrev cX6_setWind : ByteArray := prog_1_method_13_code
def yX6_setWind : MethodName := ⟨RX6, "setWind", "(I)I"⟩
abbrev cX6_strike : ByteArray := prog_1_method_14_code
def yX6_strike : MethodName := ⟨RX6, "strike", "(I)Z"⟩
abbrev cX6_dispatch : ByteArray := prog_1_method_15_code
def yX6_dispatch : MethodName := ⟨RX6, "dispatch", "(I)I"⟩
abbrev cX6_push : ByteArray := prog_1_method_16_code
def yX6_push : MethodName := ⟨RX6, "push", "(II)I"⟩
abbrev cX6_tick : ByteArray := prog_1_method_17_code
def yX6_tick : MethodName := ⟨RX6, "tick", "(I)I"⟩
abbrev cX6_enter : ByteArray := prog_1_method_18_code
def yX6_enter : MethodName := ⟨RX6, "enter", "(III)I"⟩
abbrev cX6_leave : ByteArray := prog_1_method_19_code
def yX6_leave : MethodName := ⟨RX6, "leave", "(I)I"⟩
abbrev cX6_queue : ByteArray := prog_1_method_20_code
def yX6_queue : MethodName := ⟨RX6, "queue", "(IIC)I"⟩
abbrev cX6_quit : ByteArray := prog_1_method_21_code
def yX6_quit : MethodName := ⟨RX6, "quit", "(I)I"⟩
abbrev cX6_takeReturn : ByteArray := prog_1_method_22_code
def yX6_takeReturn : MethodName := ⟨RX6, "takeReturn", "(II)I"⟩
abbrev cX6_eat : ByteArray := prog_1_method_23_code
def yX6_eat : MethodName := ⟨RX6, "eat", "(I)I"⟩
abbrev cX6_keeps : ByteArray := prog_1_method_24_code
def yX6_keeps : MethodName := ⟨RX6, "keeps", "(I)C"⟩
abbrev cX6_force : ByteArray := prog_1_method_25_code
def yX6_force : MethodName := ⟨RX6, "force", "(II)I"⟩
abbrev cX6_isHeld : ByteArray := prog_1_method_26_code
def yX6_isHeld : MethodName := ⟨RX6, "isHeld", "(II)Z"⟩
abbrev cX6_sees : ByteArray := prog_1_method_27_code
def yX6_sees : MethodName := ⟨RX6, "sees", "(III)Z"⟩
abbrev cX6_hasTripped : ByteArray := prog_1_method_28_code
def yX6_hasTripped : MethodName := ⟨RX6, "hasTripped", "(I)Z"⟩
abbrev cX6_blockOf : ByteArray := prog_1_method_29_code
def yX6_blockOf : MethodName := ⟨RX6, "blockOf", "(II)I"⟩
abbrev cX6_energy : ByteArray := prog_1_method_30_code
def yX6_energy : MethodName := ⟨RX6, "energy", "(II)I"⟩
abbrev cX6_stateOf : ByteArray := prog_1_method_31_code
def yX6_stateOf : MethodName := ⟨RX6, "stateOf", "(II)C"⟩
abbrev cX6_aboard : ByteArray := prog_1_method_32_code
def yX6_aboard : MethodName := ⟨RX6, "aboard", "(II)I"⟩
abbrev cX6_waiting : ByteArray := prog_1_method_33_code
def yX6_waiting : MethodName := ⟨RX6, "waiting", "(IC)I"⟩
abbrev cX6_whereIs : ByteArray := prog_1_method_34_code
def yX6_whereIs : MethodName := ⟨RX6, "whereIs", "(I)C"⟩
abbrev cX6_get : ByteArray := prog_1_method_35_code
def yX6_get : MethodName := ⟨RX6, "get", "(IC)I"⟩
abbrev cX6_hungriest : ByteArray := prog_1_method_36_code
def yX6_hungriest : MethodName := ⟨RX6, "hungriest", "()I"⟩
abbrev cX6_cycles : ByteArray := prog_1_method_37_code
def yX6_cycles : MethodName := ⟨RX6, "cycles", "(I)I"⟩
abbrev cX6_ticks : ByteArray := prog_1_method_38_code
def yX6_ticks : MethodName := ⟨RX6, "ticks", "()I"⟩
abbrev cX6_guests : ByteArray := prog_1_method_39_code
def yX6_guests : MethodName := ⟨RX6, "guests", "()I"⟩
abbrev cX6_till : ByteArray := prog_1_method_40_code
def yX6_till : MethodName := ⟨RX6, "till", "()J"⟩
abbrev cX6_allMoney : ByteArray := prog_1_method_41_code
def yX6_allMoney : MethodName := ⟨RX6, "allMoney", "()J"⟩
abbrev cX6_isSound : ByteArray := prog_1_method_44_code
def yX6_isSound : MethodName := ⟨RX6, "isSound", "()Z"⟩
abbrev cX6_isWithin : ByteArray := prog_1_method_45_code
def yX6_isWithin : MethodName := ⟨RX6, "isWithin", "(III)Z"⟩
abbrev cX6_isBlock : ByteArray := prog_1_method_46_code
def yX6_isBlock : MethodName := ⟨RX6, "isBlock", "(CIII)Z"⟩
abbrev cX6_rideAt : ByteArray := prog_1_method_47_code
def yX6_rideAt : MethodName := ⟨RX6, "rideAt", "(I)LCoasterland$Ride;"⟩
abbrev cX6_blockAt : ByteArray := prog_1_method_48_code
def yX6_blockAt : MethodName := ⟨RX6, "blockAt", "(LCoasterland$Ride;I)LCoasterland$Block;"⟩
abbrev cX6_checkBlock : ByteArray := prog_1_method_49_code
def yX6_checkBlock : MethodName := ⟨RX6, "checkBlock", "(LCoasterland$Ring;I)V"⟩
abbrev cX6_checkProcessor : ByteArray := prog_1_method_50_code
def yX6_checkProcessor : MethodName := ⟨RX6, "checkProcessor", "(I)V"⟩
abbrev cX6_trainAt : ByteArray := prog_1_method_51_code
def yX6_trainAt : MethodName := ⟨RX6, "trainAt", "(LCoasterland$Ride;I)LCoasterland$Train;"⟩
abbrev cX6_lineAt : ByteArray := prog_1_method_52_code
def yX6_lineAt : MethodName := ⟨RX6, "lineAt", "(LCoasterland$Ride;C)LCoasterland$Line;"⟩
abbrev cX6_guestAt : ByteArray := prog_1_method_53_code
def yX6_guestAt : MethodName := ⟨RX6, "guestAt", "(I)LCoasterland$Guest;"⟩
abbrev cX6_checkMember : ByteArray := prog_1_method_54_code
def yX6_checkMember : MethodName := ⟨RX6, "checkMember", "(I)V"⟩
abbrev cX6_isCertified : ByteArray := prog_1_method_55_code
def yX6_isCertified : MethodName := ⟨RX6, "isCertified", "(II)Z"⟩
abbrev cX6_operatesAnother : ByteArray := prog_1_method_56_code
def yX6_operatesAnother : MethodName := ⟨RX6, "operatesAnother", "(ILCoasterland$Ride;)Z"⟩
abbrev cX6_isLightningNear : ByteArray := prog_1_method_57_code
def yX6_isLightningNear : MethodName := ⟨RX6, "isLightningNear", "()Z"⟩
abbrev cX6_letGuestsRecover : ByteArray := prog_1_method_58_code
def yX6_letGuestsRecover : MethodName := ⟨RX6, "letGuestsRecover", "()V"⟩
abbrev cX6_moneyOfGuestsInside : ByteArray := prog_1_method_59_code
def yX6_moneyOfGuestsInside : MethodName := ⟨RX6, "moneyOfGuestsInside", "()J"⟩
abbrev cX6_isInOnePlace : ByteArray := prog_1_method_60_code
def yX6_isInOnePlace : MethodName := ⟨RX6, "isInOnePlace", "(LCoasterland$Guest;)Z"⟩
def RX7 : String := "CoasterlandModel$Guest"
def TX7 : u_T := fun k => match k with
  | _ => ("", "", "", false)
def tyX7 : Nat → FieldType := fun k => match k with
  | _ => .int
abbrev wsX70 : List Cond := u_ws RX7 TX7 0
theorem nmX7 : ∀ a, a < 0 → ∀ b, b < 0 → a ≠ b → (TX7 a).2.1 ≠ (TX7 b).2.1 := by decide +kernel
theorem tyX7_ok : ∀ k, k < 0 → parseFieldDescriptor (TX7 k).2.2.1 = some (tyX7 k) := by decide +kernel
def RX8 : String := "CoasterlandModel$Ride"
def TX8 : u_T := fun k => match k with
  | _ => ("", "", "", false)
def tyX8 : Nat → FieldType := fun k => match k with
  | _ => .int
abbrev wsX80 : List Cond := u_ws RX8 TX8 0
theorem nmX8 : ∀ a, a < 0 → ∀ b, b < 0 → a ≠ b → (TX8 a).2.1 ≠ (TX8 b).2.1 := by decide +kernel
theorem tyX8_ok : ∀ k, k < 0 → parseFieldDescriptor (TX8 k).2.2.1 = some (tyX8 k) := by decide +kernel
def RX9 : String := "CoasterlandModel$Train"
def TX9 : u_T := fun k => match k with
  | _ => ("", "", "", false)
def tyX9 : Nat → FieldType := fun k => match k with
  | _ => .int
abbrev wsX90 : List Cond := u_ws RX9 TX9 0
theorem nmX9 : ∀ a, a < 0 → ∀ b, b < 0 → a ≠ b → (TX9 a).2.1 ≠ (TX9 b).2.1 := by decide +kernel
theorem tyX9_ok : ∀ k, k < 0 → parseFieldDescriptor (TX9 k).2.2.1 = some (tyX9 k) := by decide +kernel
def RX10 : String := "CoasterlandModel"
def TX10 : u_T := fun k => match k with
  | _ => ("", "", "", false)
def tyX10 : Nat → FieldType := fun k => match k with
  | _ => .int
abbrev wsX100 : List Cond := u_ws RX10 TX10 0
theorem nmX10 : ∀ a, a < 0 → ∀ b, b < 0 → a ≠ b → (TX10 a).2.1 ≠ (TX10 b).2.1 := by decide +kernel
theorem tyX10_ok : ∀ k, k < 0 → parseFieldDescriptor (TX10 k).2.2.1 = some (tyX10 k) := by decide +kernel
def RJx145de : String := "java/io/Serializable"
def TJx145de : u_T := fun k => match k with
  | _ => ("", "", "", false)
def tyJx145de : Nat → FieldType := fun k => match k with
  | _ => .int
abbrev wsJx145de0 : List Cond := u_ws RJx145de TJx145de 0
theorem nmJx145de : ∀ a, a < 0 → ∀ b, b < 0 → a ≠ b → (TJx145de a).2.1 ≠ (TJx145de b).2.1 := by decide +kernel
theorem tyJx145de_ok : ∀ k, k < 0 → parseFieldDescriptor (TJx145de k).2.2.1 = some (tyJx145de k) := by decide +kernel
def RJx00060 : String := "java/lang/ArrayIndexOutOfBoundsException"
def TJx00060 : u_T := fun k => match k with
  | 0 => ("java/lang/Throwable", "backtrace", "Ljava/lang/Object;", false)
  | 1 => ("java/lang/Throwable", "detailMessage", "Ljava/lang/String;", false)
  | 2 => ("java/lang/Throwable", "cause", "Ljava/lang/Throwable;", false)
  | 3 => ("java/lang/Throwable", "stackTrace", "[Ljava/lang/StackTraceElement;", false)
  | 4 => ("java/lang/Throwable", "depth", "I", false)
  | _ => ("java/lang/Throwable", "suppressedExceptions", "Ljava/util/List;", false)
def tyJx00060 : Nat → FieldType := fun k => match k with
  | 0 => .object "java/lang/Object"
  | 1 => .object "java/lang/String"
  | 2 => .object "java/lang/Throwable"
  | 3 => .array (.object "java/lang/StackTraceElement")
  | 4 => .int
  | _ => .object "java/util/List"
abbrev wsJx000600 : List Cond := u_ws RJx00060 TJx00060 6
theorem nmJx00060 : ∀ a, a < 6 → ∀ b, b < 6 → a ≠ b → (TJx00060 a).2.1 ≠ (TJx00060 b).2.1 := by decide +kernel
theorem tyJx00060_ok : ∀ k, k < 6 → parseFieldDescriptor (TJx00060 k).2.2.1 = some (tyJx00060 k) := by decide +kernel
abbrev cJx00060_init_a7421 : ByteArray := prog_14_method_2_code
def yJx00060_init_a7421 : MethodName := ⟨RJx00060, "<init>", "(Ljava/lang/String;)V"⟩
def RJx9f9b0 : String := "java/lang/CharSequence"
def TJx9f9b0 : u_T := fun k => match k with
  | _ => ("", "", "", false)
def tyJx9f9b0 : Nat → FieldType := fun k => match k with
  | _ => .int
abbrev wsJx9f9b00 : List Cond := u_ws RJx9f9b0 TJx9f9b0 0
theorem nmJx9f9b0 : ∀ a, a < 0 → ∀ b, b < 0 → a ≠ b → (TJx9f9b0 a).2.1 ≠ (TJx9f9b0 b).2.1 := by decide +kernel
theorem tyJx9f9b0_ok : ∀ k, k < 0 → parseFieldDescriptor (TJx9f9b0 k).2.2.1 = some (tyJx9f9b0 k) := by decide +kernel
def RJxb160c : String := "java/lang/Comparable"
def TJxb160c : u_T := fun k => match k with
  | _ => ("", "", "", false)
def tyJxb160c : Nat → FieldType := fun k => match k with
  | _ => .int
abbrev wsJxb160c0 : List Cond := u_ws RJxb160c TJxb160c 0
theorem nmJxb160c : ∀ a, a < 0 → ∀ b, b < 0 → a ≠ b → (TJxb160c a).2.1 ≠ (TJxb160c b).2.1 := by decide +kernel
theorem tyJxb160c_ok : ∀ k, k < 0 → parseFieldDescriptor (TJxb160c k).2.2.1 = some (tyJxb160c k) := by decide +kernel
def RJ6 : String := "java/lang/Integer"
def TJ6 : u_T := fun k => match k with
  | _ => ("", "", "", false)
def tyJ6 : Nat → FieldType := fun k => match k with
  | _ => .int
abbrev wsJ60 : List Cond := u_ws RJ6 TJ6 0
theorem nmJ6 : ∀ a, a < 0 → ∀ b, b < 0 → a ≠ b → (TJ6 a).2.1 ≠ (TJ6 b).2.1 := by decide +kernel
theorem tyJ6_ok : ∀ k, k < 0 → parseFieldDescriptor (TJ6 k).2.2.1 = some (tyJ6 k) := by decide +kernel
abbrev cJ6_bitCount_0f7a4 : ByteArray := prog_21_method_49_code
def yJ6_bitCount_0f7a4 : MethodName := ⟨RJ6, "bitCount", "(I)I"⟩
def RJ9 : String := "java/lang/Math"
def TJ9 : u_T := fun k => match k with
  | _ => ("", "", "", false)
def tyJ9 : Nat → FieldType := fun k => match k with
  | _ => .int
abbrev wsJ90 : List Cond := u_ws RJ9 TJ9 0
theorem nmJ9 : ∀ a, a < 0 → ∀ b, b < 0 → a ≠ b → (TJ9 a).2.1 ≠ (TJ9 b).2.1 := by decide +kernel
theorem tyJ9_ok : ∀ k, k < 0 → parseFieldDescriptor (TJ9 k).2.2.1 = some (tyJ9 k) := by decide +kernel
abbrev cJ9_max_7cf53 : ByteArray := prog_22_method_65_code
def yJ9_max_7cf53 : MethodName := ⟨RJ9, "max", "(II)I"⟩
abbrev cJ9_min_7cf53 : ByteArray := prog_22_method_69_code
def yJ9_min_7cf53 : MethodName := ⟨RJ9, "min", "(II)I"⟩
def RJ0 : String := "java/lang/String"
def TJ0 : u_T := fun k => match k with
  | 0 => ("java/lang/String", "value", "[B", true)
  | _ => ("java/lang/String", "coder", "B", true)
def tyJ0 : Nat → FieldType := fun k => match k with
  | 0 => .array .byte
  | _ => .byte
abbrev wsJ00 : List Cond := u_ws RJ0 TJ0 2
theorem nmJ0 : ∀ a, a < 2 → ∀ b, b < 2 → a ≠ b → (TJ0 a).2.1 ≠ (TJ0 b).2.1 := by decide +kernel
theorem tyJ0_ok : ∀ k, k < 2 → parseFieldDescriptor (TJ0 k).2.2.1 = some (tyJ0 k) := by decide +kernel
abbrev cJ0_charAt_5068e : ByteArray := prog_24_method_56_code
def yJ0_charAt_5068e : MethodName := ⟨RJ0, "charAt", "(I)C"⟩
abbrev cJ0_isLatin1_aae02 : ByteArray := prog_24_method_154_code
def yJ0_isLatin1_aae02 : MethodName := ⟨RJ0, "isLatin1", "()Z"⟩
abbrev cJ0_checkIndex_df160 : ByteArray := prog_24_method_155_code
def yJ0_checkIndex_df160 : MethodName := ⟨RJ0, "checkIndex", "(II)V"⟩
def RJ1 : String := "java/lang/StringLatin1"
def TJ1 : u_T := fun k => match k with
  | _ => ("", "", "", false)
def tyJ1 : Nat → FieldType := fun k => match k with
  | _ => .int
abbrev wsJ10 : List Cond := u_ws RJ1 TJ1 0
theorem nmJ1 : ∀ a, a < 0 → ∀ b, b < 0 → a ≠ b → (TJ1 a).2.1 ≠ (TJ1 b).2.1 := by decide +kernel
theorem tyJ1_ok : ∀ k, k < 0 → parseFieldDescriptor (TJ1 k).2.2.1 = some (tyJ1 k) := by decide +kernel
abbrev cJ1_charAt_3b067 : ByteArray := prog_25_method_2_code
def yJ1_charAt_3b067 : MethodName := ⟨RJ1, "charAt", "([BI)C"⟩
def RJ2 : String := "java/lang/StringUTF16"
def TJ2 : u_T := fun k => match k with
  | _ => ("", "", "", false)
def tyJ2 : Nat → FieldType := fun k => match k with
  | _ => .int
abbrev wsJ20 : List Cond := u_ws RJ2 TJ2 0
theorem nmJ2 : ∀ a, a < 0 → ∀ b, b < 0 → a ≠ b → (TJ2 a).2.1 ≠ (TJ2 b).2.1 := by decide +kernel
theorem tyJ2_ok : ∀ k, k < 0 → parseFieldDescriptor (TJ2 k).2.2.1 = some (tyJ2 k) := by decide +kernel
abbrev cJ2_getChar_3b067 : ByteArray := prog_26_method_5_code
def yJ2_getChar_3b067 : MethodName := ⟨RJ2, "getChar", "([BI)C"⟩
abbrev cJ2_length_9d52b : ByteArray := prog_26_method_6_code
def yJ2_length_9d52b : MethodName := ⟨RJ2, "length", "([B)I"⟩
abbrev cJ2_charAt_3b067 : ByteArray := prog_26_method_83_code
def yJ2_charAt_3b067 : MethodName := ⟨RJ2, "charAt", "([BI)C"⟩
abbrev cJ2_checkIndex_2214a : ByteArray := prog_26_method_91_code
def yJ2_checkIndex_2214a : MethodName := ⟨RJ2, "checkIndex", "(I[B)V"⟩
def RJxfd54e : String := "java/lang/constant/Constable"
def TJxfd54e : u_T := fun k => match k with
  | _ => ("", "", "", false)
def tyJxfd54e : Nat → FieldType := fun k => match k with
  | _ => .int
abbrev wsJxfd54e0 : List Cond := u_ws RJxfd54e TJxfd54e 0
theorem nmJxfd54e : ∀ a, a < 0 → ∀ b, b < 0 → a ≠ b → (TJxfd54e a).2.1 ≠ (TJxfd54e b).2.1 := by decide +kernel
theorem tyJxfd54e_ok : ∀ k, k < 0 → parseFieldDescriptor (TJxfd54e k).2.2.1 = some (tyJxfd54e k) := by decide +kernel
def RJx3cf43 : String := "java/lang/constant/ConstantDesc"
def TJx3cf43 : u_T := fun k => match k with
  | _ => ("", "", "", false)
def tyJx3cf43 : Nat → FieldType := fun k => match k with
  | _ => .int
abbrev wsJx3cf430 : List Cond := u_ws RJx3cf43 TJx3cf43 0
theorem nmJx3cf43 : ∀ a, a < 0 → ∀ b, b < 0 → a ≠ b → (TJx3cf43 a).2.1 ≠ (TJx3cf43 b).2.1 := by decide +kernel
theorem tyJx3cf43_ok : ∀ k, k < 0 → parseFieldDescriptor (TJx3cf43 k).2.2.1 = some (tyJx3cf43 k) := by decide +kernel
def RJ3 : String := "jdk/internal/util/Preconditions"
def TJ3 : u_T := fun k => match k with
  | _ => ("", "", "", false)
def tyJ3 : Nat → FieldType := fun k => match k with
  | _ => .int
abbrev wsJ30 : List Cond := u_ws RJ3 TJ3 0
theorem nmJ3 : ∀ a, a < 0 → ∀ b, b < 0 → a ≠ b → (TJ3 a).2.1 ≠ (TJ3 b).2.1 := by decide +kernel
theorem tyJ3_ok : ∀ k, k < 0 → parseFieldDescriptor (TJ3 k).2.2.1 = some (tyJ3 k) := by decide +kernel
abbrev cJ3_checkIndex_8e157 : ByteArray := prog_32_method_11_code
def yJ3_checkIndex_8e157 : MethodName := ⟨RJ3, "checkIndex", "(IILjava/util/function/BiFunction;)I"⟩
def RL : String := "CoasterlandLaw"
abbrev cL_cell : ByteArray := method_2_code
def yL_cell : MethodName := ⟨RL, "cell", "([II)I"⟩
abbrev cL_pick : ByteArray := method_3_code
def yL_pick : MethodName := ⟨RL, "pick", "([III)I"⟩
abbrev cL_told : ByteArray := method_4_code
def yL_told : MethodName := ⟨RL, "told", "(Z)I"⟩
abbrev cL_done : ByteArray := method_5_code
def yL_done : MethodName := ⟨RL, "done", "(LCoasterland;IIIIII)I"⟩
abbrev cL_asked : ByteArray := method_6_code
def yL_asked : MethodName := ⟨RL, "asked", "(LCoasterland;IIII)I"⟩
abbrev cL_deed : ByteArray := method_7_code
def yL_deed : MethodName := ⟨RL, "deed", "(LCoasterland;IIIIII)I"⟩
abbrev cL_ask : ByteArray := method_8_code
def yL_ask : MethodName := ⟨RL, "ask", "(LCoasterland;III)I"⟩
abbrev cL_block : ByteArray := method_9_code
def yL_block : MethodName := ⟨RL, "block", "(LCoasterland;ICIII)I"⟩
abbrev cL_build : ByteArray := method_10_code
def yL_build : MethodName := ⟨RL, "build", "(LCoasterland;[I)V"⟩
abbrev cL_areTrainsApart : ByteArray := method_11_code
def yL_areTrainsApart : MethodName := ⟨RL, "areTrainsApart", "(LCoasterland;I)Z"⟩
abbrev cL_areGuestsRight : ByteArray := method_12_code
def yL_areGuestsRight : MethodName := ⟨RL, "areGuestsRight", "(LCoasterland;JJ)Z"⟩
abbrev cL_isDispatched : ByteArray := method_13_code
def yL_isDispatched : MethodName := ⟨RL, "isDispatched", "(LCoasterland;I)Z"⟩
abbrev cL_law : ByteArray := code
def yL_law : MethodName := ⟨RL, "law", "([I)Z"⟩
theorem dX0_init_0 : decode cX0_init 0 = .ok (.aload_n 0, 1) := by decide +kernel
theorem dX0_init_1 : decode cX0_init 1 = .ok (.invokespecial 3, 3) := by decide +kernel
theorem dX0_init_4 : decode cX0_init 4 = .ok (.aload_n 0, 1) := by decide +kernel
theorem dX0_init_5 : decode cX0_init 5 = .ok (.bipush 116, 2) := by decide +kernel
theorem dX0_init_7 : decode cX0_init 7 = .ok (.putfield 9, 3) := by decide +kernel
theorem dX0_init_10 : decode cX0_init 10 = .ok (.aload_n 0, 1) := by decide +kernel
theorem dX0_init_11 : decode cX0_init 11 = .ok (.bipush 116, 2) := by decide +kernel
theorem dX0_init_13 : decode cX0_init 13 = .ok (.putfield 15, 3) := by decide +kernel
theorem dX0_init_16 : decode cX0_init 16 = .ok (.aload_n 0, 1) := by decide +kernel
theorem dX0_init_17 : decode cX0_init 17 = .ok (.iload_n 1, 1) := by decide +kernel
theorem dX0_init_18 : decode cX0_init 18 = .ok (.putfield 18, 3) := by decide +kernel
theorem dX0_init_21 : decode cX0_init 21 = .ok (.aload_n 0, 1) := by decide +kernel
theorem dX0_init_22 : decode cX0_init 22 = .ok (.iload_n 2, 1) := by decide +kernel
theorem dX0_init_23 : decode cX0_init 23 = .ok (.putfield 21, 3) := by decide +kernel
theorem dX0_init_26 : decode cX0_init 26 = .ok (.aload_n 0, 1) := by decide +kernel
theorem dX0_init_27 : decode cX0_init 27 = .ok (.iload_n 3, 1) := by decide +kernel
theorem dX0_init_28 : decode cX0_init 28 = .ok (.putfield 25, 3) := by decide +kernel
theorem dX0_init_31 : decode cX0_init 31 = .ok (.aload_n 0, 1) := by decide +kernel
theorem dX0_init_32 : decode cX0_init 32 = .ok (.iload 4, 2) := by decide +kernel
theorem dX0_init_34 : decode cX0_init 34 = .ok (.putfield 28, 3) := by decide +kernel
theorem dX0_init_37 : decode cX0_init 37 = .ok (.return_, 1) := by decide +kernel
theorem dX0_isStop_0 : decode cX0_isStop 0 = .ok (.aload_n 0, 1) := by decide +kernel
theorem dX0_isStop_1 : decode cX0_isStop 1 = .ok (.getfield 18, 3) := by decide +kernel
theorem dX0_isStop_4 : decode cX0_isStop 4 = .ok (.bipush 115, 2) := by decide +kernel
theorem dX0_isStop_6 : decode cX0_isStop 6 = .ok (.if_icmp .eq 12, 3) := by decide +kernel
theorem dX0_isStop_9 : decode cX0_isStop 9 = .ok (.aload_n 0, 1) := by decide +kernel
theorem dX0_isStop_10 : decode cX0_isStop 10 = .ok (.getfield 18, 3) := by decide +kernel
theorem dX0_isStop_13 : decode cX0_isStop 13 = .ok (.bipush 98, 2) := by decide +kernel
theorem dX0_isStop_15 : decode cX0_isStop 15 = .ok (.if_icmp .ne 7, 3) := by decide +kernel
theorem dX0_isStop_18 : decode cX0_isStop 18 = .ok (.iconst 1, 1) := by decide +kernel
theorem dX0_isStop_19 : decode cX0_isStop 19 = .ok (.goto 4, 3) := by decide +kernel
theorem dX0_isStop_22 : decode cX0_isStop 22 = .ok (.iconst 0, 1) := by decide +kernel
theorem dX0_isStop_23 : decode cX0_isStop 23 = .ok (.ireturn, 1) := by decide +kernel
theorem dX0_energyBehind_0 : decode cX0_energyBehind 0 = .ok (.aload_n 0, 1) := by decide +kernel
theorem dX0_energyBehind_1 : decode cX0_energyBehind 1 = .ok (.invokevirtual 31, 3) := by decide +kernel
theorem dX0_energyBehind_4 : decode cX0_energyBehind 4 = .ok (.ifCond .eq 5, 3) := by decide +kernel
theorem dX0_energyBehind_7 : decode cX0_energyBehind 7 = .ok (.iconst 3, 1) := by decide +kernel
theorem dX0_energyBehind_8 : decode cX0_energyBehind 8 = .ok (.ireturn, 1) := by decide +kernel
theorem dX0_energyBehind_9 : decode cX0_energyBehind 9 = .ok (.aload_n 0, 1) := by decide +kernel
theorem dX0_energyBehind_10 : decode cX0_energyBehind 10 = .ok (.getfield 18, 3) := by decide +kernel
theorem dX0_energyBehind_13 : decode cX0_energyBehind 13 = .ok (.bipush 108, 2) := by decide +kernel
theorem dX0_energyBehind_15 : decode cX0_energyBehind 15 = .ok (.if_icmp .ne 5, 3) := by decide +kernel
theorem dX0_energyBehind_18 : decode cX0_energyBehind 18 = .ok (.iconst 5, 1) := by decide +kernel
theorem dX0_energyBehind_19 : decode cX0_energyBehind 19 = .ok (.ireturn, 1) := by decide +kernel
theorem dX0_energyBehind_20 : decode cX0_energyBehind 20 = .ok (.aload_n 0, 1) := by decide +kernel
theorem dX0_energyBehind_21 : decode cX0_energyBehind 21 = .ok (.getfield 21, 3) := by decide +kernel
theorem dX0_energyBehind_24 : decode cX0_energyBehind 24 = .ok (.iconst 3, 1) := by decide +kernel
theorem dX0_energyBehind_25 : decode cX0_energyBehind 25 = .ok (.iadd, 1) := by decide +kernel
theorem dX0_energyBehind_26 : decode cX0_energyBehind 26 = .ok (.iconst 4, 1) := by decide +kernel
theorem dX0_energyBehind_27 : decode cX0_energyBehind 27 = .ok (.idiv, 1) := by decide +kernel
theorem dX0_energyBehind_28 : decode cX0_energyBehind 28 = .ok (.istore_n 3, 1) := by decide +kernel
theorem dX0_energyBehind_29 : decode cX0_energyBehind 29 = .ok (.iload_n 1, 1) := by decide +kernel
theorem dX0_energyBehind_30 : decode cX0_energyBehind 30 = .ok (.iload_n 2, 1) := by decide +kernel
theorem dX0_energyBehind_31 : decode cX0_energyBehind 31 = .ok (.bipush 15, 2) := by decide +kernel
theorem dX0_energyBehind_33 : decode cX0_energyBehind 33 = .ok (.if_icmp .le 9, 3) := by decide +kernel
theorem dX0_energyBehind_36 : decode cX0_energyBehind 36 = .ok (.iconst 2, 1) := by decide +kernel
theorem dX0_energyBehind_37 : decode cX0_energyBehind 37 = .ok (.iload_n 3, 1) := by decide +kernel
theorem dX0_energyBehind_38 : decode cX0_energyBehind 38 = .ok (.imul, 1) := by decide +kernel
theorem dX0_energyBehind_39 : decode cX0_energyBehind 39 = .ok (.goto 4, 3) := by decide +kernel
theorem dX0_energyBehind_42 : decode cX0_energyBehind 42 = .ok (.iload_n 3, 1) := by decide +kernel
theorem dX0_energyBehind_43 : decode cX0_energyBehind 43 = .ok (.isub, 1) := by decide +kernel
theorem dX0_energyBehind_44 : decode cX0_energyBehind 44 = .ok (.iconst 2, 1) := by decide +kernel
theorem dX0_energyBehind_45 : decode cX0_energyBehind 45 = .ok (.aload_n 0, 1) := by decide +kernel
theorem dX0_energyBehind_46 : decode cX0_energyBehind 46 = .ok (.getfield 25, 3) := by decide +kernel
theorem dX0_energyBehind_49 : decode cX0_energyBehind 49 = .ok (.imul, 1) := by decide +kernel
theorem dX0_energyBehind_50 : decode cX0_energyBehind 50 = .ok (.isub, 1) := by decide +kernel
theorem dX0_energyBehind_51 : decode cX0_energyBehind 51 = .ok (.ireturn, 1) := by decide +kernel
theorem dX0_forceFor_0 : decode cX0_forceFor 0 = .ok (.aload_n 0, 1) := by decide +kernel
theorem dX0_forceFor_1 : decode cX0_forceFor 1 = .ok (.invokevirtual 31, 3) := by decide +kernel
theorem dX0_forceFor_4 : decode cX0_forceFor 4 = .ok (.ifCond .ne 11, 3) := by decide +kernel
theorem dX0_forceFor_7 : decode cX0_forceFor 7 = .ok (.aload_n 0, 1) := by decide +kernel
theorem dX0_forceFor_8 : decode cX0_forceFor 8 = .ok (.getfield 21, 3) := by decide +kernel
theorem dX0_forceFor_11 : decode cX0_forceFor 11 = .ok (.iconst 1, 1) := by decide +kernel
theorem dX0_forceFor_12 : decode cX0_forceFor 12 = .ok (.if_icmp .ge 7, 3) := by decide +kernel
theorem dX0_forceFor_15 : decode cX0_forceFor 15 = .ok (.iconst 0, 1) := by decide +kernel
theorem dX0_forceFor_16 : decode cX0_forceFor 16 = .ok (.goto 16, 3) := by decide +kernel
theorem dX0_forceFor_19 : decode cX0_forceFor 19 = .ok (.aload_n 0, 1) := by decide +kernel
theorem dX0_forceFor_20 : decode cX0_forceFor 20 = .ok (.getfield 28, 3) := by decide +kernel
theorem dX0_forceFor_23 : decode cX0_forceFor 23 = .ok (.iload_n 1, 1) := by decide +kernel
theorem dX0_forceFor_24 : decode cX0_forceFor 24 = .ok (.imul, 1) := by decide +kernel
theorem dX0_forceFor_25 : decode cX0_forceFor 25 = .ok (.aload_n 0, 1) := by decide +kernel
theorem dX0_forceFor_26 : decode cX0_forceFor 26 = .ok (.getfield 21, 3) := by decide +kernel
theorem dX0_forceFor_29 : decode cX0_forceFor 29 = .ok (.idiv, 1) := by decide +kernel
theorem dX0_forceFor_30 : decode cX0_forceFor 30 = .ok (.iconst 1, 1) := by decide +kernel
theorem dX0_forceFor_31 : decode cX0_forceFor 31 = .ok (.iadd, 1) := by decide +kernel
theorem dX0_forceFor_32 : decode cX0_forceFor 32 = .ok (.ireturn, 1) := by decide +kernel
theorem dX0_sensor_0 : decode cX0_sensor 0 = .ok (.iload_n 1, 1) := by decide +kernel
theorem dX0_sensor_1 : decode cX0_sensor 1 = .ok (.ifCond .ne 10, 3) := by decide +kernel
theorem dX0_sensor_4 : decode cX0_sensor 4 = .ok (.aload_n 0, 1) := by decide +kernel
theorem dX0_sensor_5 : decode cX0_sensor 5 = .ok (.getfield 9, 3) := by decide +kernel
theorem dX0_sensor_8 : decode cX0_sensor 8 = .ok (.goto 7, 3) := by decide +kernel
theorem dX0_sensor_11 : decode cX0_sensor 11 = .ok (.aload_n 0, 1) := by decide +kernel
theorem dX0_sensor_12 : decode cX0_sensor 12 = .ok (.getfield 15, 3) := by decide +kernel
theorem dX0_sensor_15 : decode cX0_sensor 15 = .ok (.ireturn, 1) := by decide +kernel
theorem dX0_tellSensor_0 : decode cX0_tellSensor 0 = .ok (.iload_n 1, 1) := by decide +kernel
theorem dX0_tellSensor_1 : decode cX0_tellSensor 1 = .ok (.ifCond .ne 11, 3) := by decide +kernel
theorem dX0_tellSensor_4 : decode cX0_tellSensor 4 = .ok (.aload_n 0, 1) := by decide +kernel
theorem dX0_tellSensor_5 : decode cX0_tellSensor 5 = .ok (.iload_n 2, 1) := by decide +kernel
theorem dX0_tellSensor_6 : decode cX0_tellSensor 6 = .ok (.putfield 9, 3) := by decide +kernel
theorem dX0_tellSensor_9 : decode cX0_tellSensor 9 = .ok (.goto 8, 3) := by decide +kernel
theorem dX0_tellSensor_12 : decode cX0_tellSensor 12 = .ok (.aload_n 0, 1) := by decide +kernel
theorem dX0_tellSensor_13 : decode cX0_tellSensor 13 = .ok (.iload_n 2, 1) := by decide +kernel
theorem dX0_tellSensor_14 : decode cX0_tellSensor 14 = .ok (.putfield 15, 3) := by decide +kernel
theorem dX0_tellSensor_17 : decode cX0_tellSensor 17 = .ok (.return_, 1) := by decide +kernel
theorem dX0_isSeenBy_0 : decode cX0_isSeenBy 0 = .ok (.aload_n 0, 1) := by decide +kernel
theorem dX0_isSeenBy_1 : decode cX0_isSeenBy 1 = .ok (.iload_n 1, 1) := by decide +kernel
theorem dX0_isSeenBy_2 : decode cX0_isSeenBy 2 = .ok (.invokevirtual 35, 3) := by decide +kernel
theorem dX0_isSeenBy_5 : decode cX0_isSeenBy 5 = .ok (.istore_n 3, 1) := by decide +kernel
theorem dX0_isSeenBy_6 : decode cX0_isSeenBy 6 = .ok (.iload_n 3, 1) := by decide +kernel
theorem dX0_isSeenBy_7 : decode cX0_isSeenBy 7 = .ok (.bipush 97, 2) := by decide +kernel
theorem dX0_isSeenBy_9 : decode cX0_isSeenBy 9 = .ok (.if_icmp .eq 13, 3) := by decide +kernel
theorem dX0_isSeenBy_12 : decode cX0_isSeenBy 12 = .ok (.iload_n 3, 1) := by decide +kernel
theorem dX0_isSeenBy_13 : decode cX0_isSeenBy 13 = .ok (.bipush 116, 2) := by decide +kernel
theorem dX0_isSeenBy_15 : decode cX0_isSeenBy 15 = .ok (.if_icmp .ne 11, 3) := by decide +kernel
theorem dX0_isSeenBy_18 : decode cX0_isSeenBy 18 = .ok (.iload_n 2, 1) := by decide +kernel
theorem dX0_isSeenBy_19 : decode cX0_isSeenBy 19 = .ok (.ifCond .eq 7, 3) := by decide +kernel
theorem dX0_isSeenBy_22 : decode cX0_isSeenBy 22 = .ok (.iconst 1, 1) := by decide +kernel
theorem dX0_isSeenBy_23 : decode cX0_isSeenBy 23 = .ok (.goto 4, 3) := by decide +kernel
theorem dX0_isSeenBy_26 : decode cX0_isSeenBy 26 = .ok (.iconst 0, 1) := by decide +kernel
theorem dX0_isSeenBy_27 : decode cX0_isSeenBy 27 = .ok (.ireturn, 1) := by decide +kernel
theorem dX1_init_0 : decode cX1_init 0 = .ok (.aload_n 0, 1) := by decide +kernel
theorem dX1_init_1 : decode cX1_init 1 = .ok (.invokespecial 3, 3) := by decide +kernel
theorem dX1_init_4 : decode cX1_init 4 = .ok (.aload_n 0, 1) := by decide +kernel
theorem dX1_init_5 : decode cX1_init 5 = .ok (.bipush 112, 2) := by decide +kernel
theorem dX1_init_7 : decode cX1_init 7 = .ok (.putfield 9, 3) := by decide +kernel
theorem dX1_init_10 : decode cX1_init 10 = .ok (.aload_n 0, 1) := by decide +kernel
theorem dX1_init_11 : decode cX1_init 11 = .ok (.iconst (-1), 1) := by decide +kernel
theorem dX1_init_12 : decode cX1_init 12 = .ok (.putfield 15, 3) := by decide +kernel
theorem dX1_init_15 : decode cX1_init 15 = .ok (.aload_n 0, 1) := by decide +kernel
theorem dX1_init_16 : decode cX1_init 16 = .ok (.iload_n 1, 1) := by decide +kernel
theorem dX1_init_17 : decode cX1_init 17 = .ok (.putfield 19, 3) := by decide +kernel
theorem dX1_init_20 : decode cX1_init 20 = .ok (.aload_n 0, 1) := by decide +kernel
theorem dX1_init_21 : decode cX1_init 21 = .ok (.iload_n 2, 1) := by decide +kernel
theorem dX1_init_22 : decode cX1_init 22 = .ok (.putfield 22, 3) := by decide +kernel
theorem dX1_init_25 : decode cX1_init 25 = .ok (.aload_n 0, 1) := by decide +kernel
theorem dX1_init_26 : decode cX1_init 26 = .ok (.iload_n 3, 1) := by decide +kernel
theorem dX1_init_27 : decode cX1_init 27 = .ok (.putfield 25, 3) := by decide +kernel
theorem dX1_init_30 : decode cX1_init 30 = .ok (.return_, 1) := by decide +kernel
theorem dX1_mayQueue_0 : decode cX1_mayQueue 0 = .ok (.aload_n 0, 1) := by decide +kernel
theorem dX1_mayQueue_1 : decode cX1_mayQueue 1 = .ok (.getfield 9, 3) := by decide +kernel
theorem dX1_mayQueue_4 : decode cX1_mayQueue 4 = .ok (.bipush 112, 2) := by decide +kernel
theorem dX1_mayQueue_6 : decode cX1_mayQueue 6 = .ok (.if_icmp .ne 38, 3) := by decide +kernel
theorem dX1_mayQueue_9 : decode cX1_mayQueue 9 = .ok (.aload_n 0, 1) := by decide +kernel
theorem dX1_mayQueue_10 : decode cX1_mayQueue 10 = .ok (.getfield 22, 3) := by decide +kernel
theorem dX1_mayQueue_13 : decode cX1_mayQueue 13 = .ok (.aload_n 1, 1) := by decide +kernel
theorem dX1_mayQueue_14 : decode cX1_mayQueue 14 = .ok (.getfield 28, 3) := by decide +kernel
theorem dX1_mayQueue_17 : decode cX1_mayQueue 17 = .ok (.if_icmp .lt 27, 3) := by decide +kernel
theorem dX1_mayQueue_20 : decode cX1_mayQueue 20 = .ok (.aload_n 0, 1) := by decide +kernel
theorem dX1_mayQueue_21 : decode cX1_mayQueue 21 = .ok (.getfield 19, 3) := by decide +kernel
theorem dX1_mayQueue_24 : decode cX1_mayQueue 24 = .ok (.aload_n 1, 1) := by decide +kernel
theorem dX1_mayQueue_25 : decode cX1_mayQueue 25 = .ok (.getfield 31, 3) := by decide +kernel
theorem dX1_mayQueue_28 : decode cX1_mayQueue 28 = .ok (.if_icmp .lt 16, 3) := by decide +kernel
theorem dX1_mayQueue_31 : decode cX1_mayQueue 31 = .ok (.aload_n 0, 1) := by decide +kernel
theorem dX1_mayQueue_32 : decode cX1_mayQueue 32 = .ok (.getfield 34, 3) := by decide +kernel
theorem dX1_mayQueue_35 : decode cX1_mayQueue 35 = .ok (.bipush 50, 2) := by decide +kernel
theorem dX1_mayQueue_37 : decode cX1_mayQueue 37 = .ok (.if_icmp .ge 7, 3) := by decide +kernel
theorem dX1_mayQueue_40 : decode cX1_mayQueue 40 = .ok (.iconst 1, 1) := by decide +kernel
theorem dX1_mayQueue_41 : decode cX1_mayQueue 41 = .ok (.goto 4, 3) := by decide +kernel
theorem dX1_mayQueue_44 : decode cX1_mayQueue 44 = .ok (.iconst 0, 1) := by decide +kernel
theorem dX1_mayQueue_45 : decode cX1_mayQueue 45 = .ok (.ireturn, 1) := by decide +kernel
theorem dX1_canUseReturn_0 : decode cX1_canUseReturn 0 = .ok (.aload_n 0, 1) := by decide +kernel
theorem dX1_canUseReturn_1 : decode cX1_canUseReturn 1 = .ok (.getfield 15, 3) := by decide +kernel
theorem dX1_canUseReturn_4 : decode cX1_canUseReturn 4 = .ok (.iload_n 1, 1) := by decide +kernel
theorem dX1_canUseReturn_5 : decode cX1_canUseReturn 5 = .ok (.if_icmp .ne 15, 3) := by decide +kernel
theorem dX1_canUseReturn_8 : decode cX1_canUseReturn 8 = .ok (.aload_n 0, 1) := by decide +kernel
theorem dX1_canUseReturn_9 : decode cX1_canUseReturn 9 = .ok (.getfield 37, 3) := by decide +kernel
theorem dX1_canUseReturn_12 : decode cX1_canUseReturn 12 = .ok (.iload_n 2, 1) := by decide +kernel
theorem dX1_canUseReturn_13 : decode cX1_canUseReturn 13 = .ok (.if_icmp .gt 7, 3) := by decide +kernel
theorem dX1_canUseReturn_16 : decode cX1_canUseReturn 16 = .ok (.iconst 1, 1) := by decide +kernel
theorem dX1_canUseReturn_17 : decode cX1_canUseReturn 17 = .ok (.goto 4, 3) := by decide +kernel
theorem dX1_canUseReturn_20 : decode cX1_canUseReturn 20 = .ok (.iconst 0, 1) := by decide +kernel
theorem dX1_canUseReturn_21 : decode cX1_canUseReturn 21 = .ok (.ireturn, 1) := by decide +kernel
theorem dX1_comesWith_0 : decode cX1_comesWith 0 = .ok (.aload_n 0, 1) := by decide +kernel
theorem dX1_comesWith_1 : decode cX1_comesWith 1 = .ok (.aload_n 1, 1) := by decide +kernel
theorem dX1_comesWith_2 : decode cX1_comesWith 2 = .ok (.if_acmp .eq 21, 3) := by decide +kernel
theorem dX1_comesWith_5 : decode cX1_comesWith 5 = .ok (.aload_n 0, 1) := by decide +kernel
theorem dX1_comesWith_6 : decode cX1_comesWith 6 = .ok (.getfield 25, 3) := by decide +kernel
theorem dX1_comesWith_9 : decode cX1_comesWith 9 = .ok (.ifCond .eq 18, 3) := by decide +kernel
theorem dX1_comesWith_12 : decode cX1_comesWith 12 = .ok (.aload_n 0, 1) := by decide +kernel
theorem dX1_comesWith_13 : decode cX1_comesWith 13 = .ok (.getfield 25, 3) := by decide +kernel
theorem dX1_comesWith_16 : decode cX1_comesWith 16 = .ok (.aload_n 1, 1) := by decide +kernel
theorem dX1_comesWith_17 : decode cX1_comesWith 17 = .ok (.getfield 25, 3) := by decide +kernel
theorem dX1_comesWith_20 : decode cX1_comesWith 20 = .ok (.if_icmp .ne 7, 3) := by decide +kernel
theorem dX1_comesWith_23 : decode cX1_comesWith 23 = .ok (.iconst 1, 1) := by decide +kernel
theorem dX1_comesWith_24 : decode cX1_comesWith 24 = .ok (.goto 4, 3) := by decide +kernel
theorem dX1_comesWith_27 : decode cX1_comesWith 27 = .ok (.iconst 0, 1) := by decide +kernel
theorem dX1_comesWith_28 : decode cX1_comesWith 28 = .ok (.ireturn, 1) := by decide +kernel
theorem dX1_joinLine_0 : decode cX1_joinLine 0 = .ok (.aload_n 1, 1) := by decide +kernel
theorem dX1_joinLine_1 : decode cX1_joinLine 1 = .ok (.aload_n 0, 1) := by decide +kernel
theorem dX1_joinLine_2 : decode cX1_joinLine 2 = .ok (.invokevirtual 40, 3) := by decide +kernel
theorem dX1_joinLine_5 : decode cX1_joinLine 5 = .ok (.aload_n 0, 1) := by decide +kernel
theorem dX1_joinLine_6 : decode cX1_joinLine 6 = .ok (.aload_n 1, 1) := by decide +kernel
theorem dX1_joinLine_7 : decode cX1_joinLine 7 = .ok (.putfield 46, 3) := by decide +kernel
theorem dX1_joinLine_10 : decode cX1_joinLine 10 = .ok (.aload_n 0, 1) := by decide +kernel
theorem dX1_joinLine_11 : decode cX1_joinLine 11 = .ok (.iload_n 2, 1) := by decide +kernel
theorem dX1_joinLine_12 : decode cX1_joinLine 12 = .ok (.putfield 50, 3) := by decide +kernel
theorem dX1_joinLine_15 : decode cX1_joinLine 15 = .ok (.aload_n 0, 1) := by decide +kernel
theorem dX1_joinLine_16 : decode cX1_joinLine 16 = .ok (.dup, 1) := by decide +kernel
theorem dX1_joinLine_17 : decode cX1_joinLine 17 = .ok (.getfield 19, 3) := by decide +kernel
theorem dX1_joinLine_20 : decode cX1_joinLine 20 = .ok (.iload_n 2, 1) := by decide +kernel
theorem dX1_joinLine_21 : decode cX1_joinLine 21 = .ok (.isub, 1) := by decide +kernel
theorem dX1_joinLine_22 : decode cX1_joinLine 22 = .ok (.putfield 19, 3) := by decide +kernel
theorem dX1_joinLine_25 : decode cX1_joinLine 25 = .ok (.aload_n 0, 1) := by decide +kernel
theorem dX1_joinLine_26 : decode cX1_joinLine 26 = .ok (.bipush 113, 2) := by decide +kernel
theorem dX1_joinLine_28 : decode cX1_joinLine 28 = .ok (.putfield 9, 3) := by decide +kernel
theorem dX1_joinLine_31 : decode cX1_joinLine 31 = .ok (.return_, 1) := by decide +kernel
theorem dX1_leaveLine_0 : decode cX1_leaveLine 0 = .ok (.aload_n 0, 1) := by decide +kernel
theorem dX1_leaveLine_1 : decode cX1_leaveLine 1 = .ok (.getfield 46, 3) := by decide +kernel
theorem dX1_leaveLine_4 : decode cX1_leaveLine 4 = .ok (.ifnull 11, 3) := by decide +kernel
theorem dX1_leaveLine_7 : decode cX1_leaveLine 7 = .ok (.aload_n 0, 1) := by decide +kernel
theorem dX1_leaveLine_8 : decode cX1_leaveLine 8 = .ok (.getfield 46, 3) := by decide +kernel
theorem dX1_leaveLine_11 : decode cX1_leaveLine 11 = .ok (.aload_n 0, 1) := by decide +kernel
theorem dX1_leaveLine_12 : decode cX1_leaveLine 12 = .ok (.invokevirtual 53, 3) := by decide +kernel
theorem dX1_leaveLine_15 : decode cX1_leaveLine 15 = .ok (.aload_n 0, 1) := by decide +kernel
theorem dX1_leaveLine_16 : decode cX1_leaveLine 16 = .ok (.aconst_null, 1) := by decide +kernel
theorem dX1_leaveLine_17 : decode cX1_leaveLine 17 = .ok (.putfield 46, 3) := by decide +kernel
theorem dX1_leaveLine_20 : decode cX1_leaveLine 20 = .ok (.aload_n 0, 1) := by decide +kernel
theorem dX1_leaveLine_21 : decode cX1_leaveLine 21 = .ok (.dup, 1) := by decide +kernel
theorem dX1_leaveLine_22 : decode cX1_leaveLine 22 = .ok (.getfield 19, 3) := by decide +kernel
theorem dX1_leaveLine_25 : decode cX1_leaveLine 25 = .ok (.aload_n 0, 1) := by decide +kernel
theorem dX1_leaveLine_26 : decode cX1_leaveLine 26 = .ok (.getfield 50, 3) := by decide +kernel
theorem dX1_leaveLine_29 : decode cX1_leaveLine 29 = .ok (.iadd, 1) := by decide +kernel
theorem dX1_leaveLine_30 : decode cX1_leaveLine 30 = .ok (.putfield 19, 3) := by decide +kernel
theorem dX1_leaveLine_33 : decode cX1_leaveLine 33 = .ok (.aload_n 0, 1) := by decide +kernel
theorem dX1_leaveLine_34 : decode cX1_leaveLine 34 = .ok (.bipush 112, 2) := by decide +kernel
theorem dX1_leaveLine_36 : decode cX1_leaveLine 36 = .ok (.putfield 9, 3) := by decide +kernel
theorem dX1_leaveLine_39 : decode cX1_leaveLine 39 = .ok (.aload_n 0, 1) := by decide +kernel
theorem dX1_leaveLine_40 : decode cX1_leaveLine 40 = .ok (.getfield 50, 3) := by decide +kernel
theorem dX1_leaveLine_43 : decode cX1_leaveLine 43 = .ok (.ireturn, 1) := by decide +kernel
theorem dX1_goAboard_0 : decode cX1_goAboard 0 = .ok (.aload_n 0, 1) := by decide +kernel
theorem dX1_goAboard_1 : decode cX1_goAboard 1 = .ok (.aconst_null, 1) := by decide +kernel
theorem dX1_goAboard_2 : decode cX1_goAboard 2 = .ok (.putfield 46, 3) := by decide +kernel
theorem dX1_goAboard_5 : decode cX1_goAboard 5 = .ok (.aload_n 0, 1) := by decide +kernel
theorem dX1_goAboard_6 : decode cX1_goAboard 6 = .ok (.bipush 116, 2) := by decide +kernel
theorem dX1_goAboard_8 : decode cX1_goAboard 8 = .ok (.putfield 9, 3) := by decide +kernel
theorem dX1_goAboard_11 : decode cX1_goAboard 11 = .ok (.return_, 1) := by decide +kernel
theorem dX1_haveMeal_0 : decode cX1_haveMeal 0 = .ok (.aload_n 0, 1) := by decide +kernel
theorem dX1_haveMeal_1 : decode cX1_haveMeal 1 = .ok (.dup, 1) := by decide +kernel
theorem dX1_haveMeal_2 : decode cX1_haveMeal 2 = .ok (.getfield 19, 3) := by decide +kernel
theorem dX1_haveMeal_5 : decode cX1_haveMeal 5 = .ok (.iconst 5, 1) := by decide +kernel
theorem dX1_haveMeal_6 : decode cX1_haveMeal 6 = .ok (.isub, 1) := by decide +kernel
theorem dX1_haveMeal_7 : decode cX1_haveMeal 7 = .ok (.putfield 19, 3) := by decide +kernel
theorem dX1_haveMeal_10 : decode cX1_haveMeal 10 = .ok (.aload_n 0, 1) := by decide +kernel
theorem dX1_haveMeal_11 : decode cX1_haveMeal 11 = .ok (.iconst 0, 1) := by decide +kernel
theorem dX1_haveMeal_12 : decode cX1_haveMeal 12 = .ok (.aload_n 0, 1) := by decide +kernel
theorem dX1_haveMeal_13 : decode cX1_haveMeal 13 = .ok (.getfield 56, 3) := by decide +kernel
theorem dX1_haveMeal_16 : decode cX1_haveMeal 16 = .ok (.iconst 5, 1) := by decide +kernel
theorem dX1_haveMeal_17 : decode cX1_haveMeal 17 = .ok (.isub, 1) := by decide +kernel
theorem dX1_haveMeal_18 : decode cX1_haveMeal 18 = .ok (.invokestatic 59, 3) := by decide +kernel
theorem dX1_haveMeal_21 : decode cX1_haveMeal 21 = .ok (.putfield 56, 3) := by decide +kernel
theorem dX1_haveMeal_24 : decode cX1_haveMeal 24 = .ok (.aload_n 0, 1) := by decide +kernel
theorem dX1_haveMeal_25 : decode cX1_haveMeal 25 = .ok (.bipush 99, 2) := by decide +kernel
theorem dX1_haveMeal_27 : decode cX1_haveMeal 27 = .ok (.aload_n 0, 1) := by decide +kernel
theorem dX1_haveMeal_28 : decode cX1_haveMeal 28 = .ok (.getfield 34, 3) := by decide +kernel
theorem dX1_haveMeal_31 : decode cX1_haveMeal 31 = .ok (.iconst 3, 1) := by decide +kernel
theorem dX1_haveMeal_32 : decode cX1_haveMeal 32 = .ok (.iadd, 1) := by decide +kernel
theorem dX1_haveMeal_33 : decode cX1_haveMeal 33 = .ok (.invokestatic 65, 3) := by decide +kernel
theorem dX1_haveMeal_36 : decode cX1_haveMeal 36 = .ok (.putfield 34, 3) := by decide +kernel
theorem dX1_haveMeal_39 : decode cX1_haveMeal 39 = .ok (.return_, 1) := by decide +kernel
theorem dX1_finishRide_0 : decode cX1_finishRide 0 = .ok (.aload_n 0, 1) := by decide +kernel
theorem dX1_finishRide_1 : decode cX1_finishRide 1 = .ok (.bipush 112, 2) := by decide +kernel
theorem dX1_finishRide_3 : decode cX1_finishRide 3 = .ok (.putfield 9, 3) := by decide +kernel
theorem dX1_finishRide_6 : decode cX1_finishRide 6 = .ok (.aload_n 0, 1) := by decide +kernel
theorem dX1_finishRide_7 : decode cX1_finishRide 7 = .ok (.bipush 99, 2) := by decide +kernel
theorem dX1_finishRide_9 : decode cX1_finishRide 9 = .ok (.aload_n 0, 1) := by decide +kernel
theorem dX1_finishRide_10 : decode cX1_finishRide 10 = .ok (.getfield 34, 3) := by decide +kernel
theorem dX1_finishRide_13 : decode cX1_finishRide 13 = .ok (.iload_n 1, 1) := by decide +kernel
theorem dX1_finishRide_14 : decode cX1_finishRide 14 = .ok (.iadd, 1) := by decide +kernel
theorem dX1_finishRide_15 : decode cX1_finishRide 15 = .ok (.invokestatic 65, 3) := by decide +kernel
theorem dX1_finishRide_18 : decode cX1_finishRide 18 = .ok (.putfield 34, 3) := by decide +kernel
theorem dX1_finishRide_21 : decode cX1_finishRide 21 = .ok (.aload_n 0, 1) := by decide +kernel
theorem dX1_finishRide_22 : decode cX1_finishRide 22 = .ok (.bipush 99, 2) := by decide +kernel
theorem dX1_finishRide_24 : decode cX1_finishRide 24 = .ok (.aload_n 0, 1) := by decide +kernel
theorem dX1_finishRide_25 : decode cX1_finishRide 25 = .ok (.getfield 56, 3) := by decide +kernel
theorem dX1_finishRide_28 : decode cX1_finishRide 28 = .ok (.iconst 1, 1) := by decide +kernel
theorem dX1_finishRide_29 : decode cX1_finishRide 29 = .ok (.iadd, 1) := by decide +kernel
theorem dX1_finishRide_30 : decode cX1_finishRide 30 = .ok (.invokestatic 65, 3) := by decide +kernel
theorem dX1_finishRide_33 : decode cX1_finishRide 33 = .ok (.putfield 56, 3) := by decide +kernel
theorem dX1_finishRide_36 : decode cX1_finishRide 36 = .ok (.aload_n 0, 1) := by decide +kernel
theorem dX1_finishRide_37 : decode cX1_finishRide 37 = .ok (.dup, 1) := by decide +kernel
theorem dX1_finishRide_38 : decode cX1_finishRide 38 = .ok (.getfield 68, 3) := by decide +kernel
theorem dX1_finishRide_41 : decode cX1_finishRide 41 = .ok (.iconst 1, 1) := by decide +kernel
theorem dX1_finishRide_42 : decode cX1_finishRide 42 = .ok (.iadd, 1) := by decide +kernel
theorem dX1_finishRide_43 : decode cX1_finishRide 43 = .ok (.putfield 68, 3) := by decide +kernel
theorem dX1_finishRide_46 : decode cX1_finishRide 46 = .ok (.return_, 1) := by decide +kernel
theorem dX1_isHungrierThan_0 : decode cX1_isHungrierThan 0 = .ok (.aload_n 0, 1) := by decide +kernel
theorem dX1_isHungrierThan_1 : decode cX1_isHungrierThan 1 = .ok (.getfield 56, 3) := by decide +kernel
theorem dX1_isHungrierThan_4 : decode cX1_isHungrierThan 4 = .ok (.aload_n 1, 1) := by decide +kernel
theorem dX1_isHungrierThan_5 : decode cX1_isHungrierThan 5 = .ok (.getfield 56, 3) := by decide +kernel
theorem dX1_isHungrierThan_8 : decode cX1_isHungrierThan 8 = .ok (.if_icmp .gt 25, 3) := by decide +kernel
theorem dX1_isHungrierThan_11 : decode cX1_isHungrierThan 11 = .ok (.aload_n 0, 1) := by decide +kernel
theorem dX1_isHungrierThan_12 : decode cX1_isHungrierThan 12 = .ok (.getfield 56, 3) := by decide +kernel
theorem dX1_isHungrierThan_15 : decode cX1_isHungrierThan 15 = .ok (.aload_n 1, 1) := by decide +kernel
theorem dX1_isHungrierThan_16 : decode cX1_isHungrierThan 16 = .ok (.getfield 56, 3) := by decide +kernel
theorem dX1_isHungrierThan_19 : decode cX1_isHungrierThan 19 = .ok (.if_icmp .ne 18, 3) := by decide +kernel
theorem dX1_isHungrierThan_22 : decode cX1_isHungrierThan 22 = .ok (.aload_n 0, 1) := by decide +kernel
theorem dX1_isHungrierThan_23 : decode cX1_isHungrierThan 23 = .ok (.getfield 34, 3) := by decide +kernel
theorem dX1_isHungrierThan_26 : decode cX1_isHungrierThan 26 = .ok (.aload_n 1, 1) := by decide +kernel
theorem dX1_isHungrierThan_27 : decode cX1_isHungrierThan 27 = .ok (.getfield 34, 3) := by decide +kernel
theorem dX1_isHungrierThan_30 : decode cX1_isHungrierThan 30 = .ok (.if_icmp .ge 7, 3) := by decide +kernel
theorem dX1_isHungrierThan_33 : decode cX1_isHungrierThan 33 = .ok (.iconst 1, 1) := by decide +kernel
theorem dX1_isHungrierThan_34 : decode cX1_isHungrierThan 34 = .ok (.goto 4, 3) := by decide +kernel
theorem dX1_isHungrierThan_37 : decode cX1_isHungrierThan 37 = .ok (.iconst 0, 1) := by decide +kernel
theorem dX1_isHungrierThan_38 : decode cX1_isHungrierThan 38 = .ok (.ireturn, 1) := by decide +kernel
theorem dX2_init_0 : decode cX2_init 0 = .ok (.aload_n 0, 1) := by decide +kernel
theorem dX2_init_1 : decode cX2_init 1 = .ok (.invokespecial 3, 3) := by decide +kernel
theorem dX2_init_4 : decode cX2_init 4 = .ok (.aload_n 0, 1) := by decide +kernel
theorem dX2_init_5 : decode cX2_init 5 = .ok (.bipush 60, 2) := by decide +kernel
theorem dX2_init_7 : decode cX2_init 7 = .ok (.anewarray 9, 3) := by decide +kernel
theorem dX2_init_10 : decode cX2_init 10 = .ok (.putfield 11, 3) := by decide +kernel
theorem dX2_init_13 : decode cX2_init 13 = .ok (.return_, 1) := by decide +kernel
theorem dX2_append_0 : decode cX2_append 0 = .ok (.aload_n 0, 1) := by decide +kernel
theorem dX2_append_1 : decode cX2_append 1 = .ok (.getfield 17, 3) := by decide +kernel
theorem dX2_append_4 : decode cX2_append 4 = .ok (.ifCond .lt 35, 3) := by decide +kernel
theorem dX2_append_7 : decode cX2_append 7 = .ok (.aload_n 0, 1) := by decide +kernel
theorem dX2_append_8 : decode cX2_append 8 = .ok (.getfield 17, 3) := by decide +kernel
theorem dX2_append_11 : decode cX2_append 11 = .ok (.aload_n 0, 1) := by decide +kernel
theorem dX2_append_12 : decode cX2_append 12 = .ok (.getfield 11, 3) := by decide +kernel
theorem dX2_append_15 : decode cX2_append 15 = .ok (.arraylength, 1) := by decide +kernel
theorem dX2_append_16 : decode cX2_append 16 = .ok (.if_icmp .ge 23, 3) := by decide +kernel
theorem dX2_append_19 : decode cX2_append 19 = .ok (.aload_n 0, 1) := by decide +kernel
theorem dX2_append_20 : decode cX2_append 20 = .ok (.getfield 11, 3) := by decide +kernel
theorem dX2_append_23 : decode cX2_append 23 = .ok (.aload_n 0, 1) := by decide +kernel
theorem dX2_append_24 : decode cX2_append 24 = .ok (.getfield 17, 3) := by decide +kernel
theorem dX2_append_27 : decode cX2_append 27 = .ok (.aload_n 1, 1) := by decide +kernel
theorem dX2_append_28 : decode cX2_append 28 = .ok (.aastore, 1) := by decide +kernel
theorem dX2_append_29 : decode cX2_append 29 = .ok (.aload_n 0, 1) := by decide +kernel
theorem dX2_append_30 : decode cX2_append 30 = .ok (.dup, 1) := by decide +kernel
theorem dX2_append_31 : decode cX2_append 31 = .ok (.getfield 17, 3) := by decide +kernel
theorem dX2_append_34 : decode cX2_append 34 = .ok (.iconst 1, 1) := by decide +kernel
theorem dX2_append_35 : decode cX2_append 35 = .ok (.iadd, 1) := by decide +kernel
theorem dX2_append_36 : decode cX2_append 36 = .ok (.putfield 17, 3) := by decide +kernel
theorem dX2_append_39 : decode cX2_append 39 = .ok (.return_, 1) := by decide +kernel
theorem dX2_first_0 : decode cX2_first 0 = .ok (.aload_n 0, 1) := by decide +kernel
theorem dX2_first_1 : decode cX2_first 1 = .ok (.getfield 11, 3) := by decide +kernel
theorem dX2_first_4 : decode cX2_first 4 = .ok (.iconst 0, 1) := by decide +kernel
theorem dX2_first_5 : decode cX2_first 5 = .ok (.aaload, 1) := by decide +kernel
theorem dX2_first_6 : decode cX2_first 6 = .ok (.areturn, 1) := by decide +kernel
theorem dX2_partyOf_0 : decode cX2_partyOf 0 = .ok (.iconst 0, 1) := by decide +kernel
theorem dX2_partyOf_1 : decode cX2_partyOf 1 = .ok (.istore_n 2, 1) := by decide +kernel
theorem dX2_partyOf_2 : decode cX2_partyOf 2 = .ok (.iconst 0, 1) := by decide +kernel
theorem dX2_partyOf_3 : decode cX2_partyOf 3 = .ok (.istore_n 3, 1) := by decide +kernel
theorem dX2_partyOf_4 : decode cX2_partyOf 4 = .ok (.iload_n 3, 1) := by decide +kernel
theorem dX2_partyOf_5 : decode cX2_partyOf 5 = .ok (.aload_n 0, 1) := by decide +kernel
theorem dX2_partyOf_6 : decode cX2_partyOf 6 = .ok (.getfield 17, 3) := by decide +kernel
theorem dX2_partyOf_9 : decode cX2_partyOf 9 = .ok (.if_icmp .ge 43, 3) := by decide +kernel
theorem dX2_partyOf_12 : decode cX2_partyOf 12 = .ok (.iload_n 3, 1) := by decide +kernel
theorem dX2_partyOf_13 : decode cX2_partyOf 13 = .ok (.aload_n 0, 1) := by decide +kernel
theorem dX2_partyOf_14 : decode cX2_partyOf 14 = .ok (.getfield 11, 3) := by decide +kernel
theorem dX2_partyOf_17 : decode cX2_partyOf 17 = .ok (.arraylength, 1) := by decide +kernel
theorem dX2_partyOf_18 : decode cX2_partyOf 18 = .ok (.if_icmp .ge 34, 3) := by decide +kernel
theorem dX2_partyOf_21 : decode cX2_partyOf 21 = .ok (.aload_n 0, 1) := by decide +kernel
theorem dX2_partyOf_22 : decode cX2_partyOf 22 = .ok (.getfield 11, 3) := by decide +kernel
theorem dX2_partyOf_25 : decode cX2_partyOf 25 = .ok (.iload_n 3, 1) := by decide +kernel
theorem dX2_partyOf_26 : decode cX2_partyOf 26 = .ok (.aaload, 1) := by decide +kernel
theorem dX2_partyOf_27 : decode cX2_partyOf 27 = .ok (.astore 4, 2) := by decide +kernel
theorem dX2_partyOf_29 : decode cX2_partyOf 29 = .ok (.aload 4, 2) := by decide +kernel
theorem dX2_partyOf_31 : decode cX2_partyOf 31 = .ok (.ifnull 15, 3) := by decide +kernel
theorem dX2_partyOf_34 : decode cX2_partyOf 34 = .ok (.aload 4, 2) := by decide +kernel
theorem dX2_partyOf_36 : decode cX2_partyOf 36 = .ok (.aload_n 1, 1) := by decide +kernel
theorem dX2_partyOf_37 : decode cX2_partyOf 37 = .ok (.invokevirtual 21, 3) := by decide +kernel
theorem dX2_partyOf_40 : decode cX2_partyOf 40 = .ok (.ifCond .eq 6, 3) := by decide +kernel
theorem dX2_partyOf_43 : decode cX2_partyOf 43 = .ok (.iinc 2 1, 3) := by decide +kernel
theorem dX2_partyOf_46 : decode cX2_partyOf 46 = .ok (.iinc 3 1, 3) := by decide +kernel
theorem dX2_partyOf_49 : decode cX2_partyOf 49 = .ok (.goto (-45), 3) := by decide +kernel
theorem dX2_partyOf_52 : decode cX2_partyOf 52 = .ok (.iload_n 2, 1) := by decide +kernel
theorem dX2_partyOf_53 : decode cX2_partyOf 53 = .ok (.ireturn, 1) := by decide +kernel
theorem dX2_takeOneOf_0 : decode cX2_takeOneOf 0 = .ok (.iconst 0, 1) := by decide +kernel
theorem dX2_takeOneOf_1 : decode cX2_takeOneOf 1 = .ok (.istore_n 2, 1) := by decide +kernel
theorem dX2_takeOneOf_2 : decode cX2_takeOneOf 2 = .ok (.iload_n 2, 1) := by decide +kernel
theorem dX2_takeOneOf_3 : decode cX2_takeOneOf 3 = .ok (.aload_n 0, 1) := by decide +kernel
theorem dX2_takeOneOf_4 : decode cX2_takeOneOf 4 = .ok (.getfield 17, 3) := by decide +kernel
theorem dX2_takeOneOf_7 : decode cX2_takeOneOf 7 = .ok (.if_icmp .ge 44, 3) := by decide +kernel
theorem dX2_takeOneOf_10 : decode cX2_takeOneOf 10 = .ok (.iload_n 2, 1) := by decide +kernel
theorem dX2_takeOneOf_11 : decode cX2_takeOneOf 11 = .ok (.aload_n 0, 1) := by decide +kernel
theorem dX2_takeOneOf_12 : decode cX2_takeOneOf 12 = .ok (.getfield 11, 3) := by decide +kernel
theorem dX2_takeOneOf_15 : decode cX2_takeOneOf 15 = .ok (.arraylength, 1) := by decide +kernel
theorem dX2_takeOneOf_16 : decode cX2_takeOneOf 16 = .ok (.if_icmp .ge 35, 3) := by decide +kernel
theorem dX2_takeOneOf_19 : decode cX2_takeOneOf 19 = .ok (.aload_n 0, 1) := by decide +kernel
theorem dX2_takeOneOf_20 : decode cX2_takeOneOf 20 = .ok (.getfield 11, 3) := by decide +kernel
theorem dX2_takeOneOf_23 : decode cX2_takeOneOf 23 = .ok (.iload_n 2, 1) := by decide +kernel
theorem dX2_takeOneOf_24 : decode cX2_takeOneOf 24 = .ok (.aaload, 1) := by decide +kernel
theorem dX2_takeOneOf_25 : decode cX2_takeOneOf 25 = .ok (.astore_n 3, 1) := by decide +kernel
theorem dX2_takeOneOf_26 : decode cX2_takeOneOf 26 = .ok (.aload_n 3, 1) := by decide +kernel
theorem dX2_takeOneOf_27 : decode cX2_takeOneOf 27 = .ok (.ifnull 18, 3) := by decide +kernel
theorem dX2_takeOneOf_30 : decode cX2_takeOneOf 30 = .ok (.aload_n 3, 1) := by decide +kernel
theorem dX2_takeOneOf_31 : decode cX2_takeOneOf 31 = .ok (.aload_n 1, 1) := by decide +kernel
theorem dX2_takeOneOf_32 : decode cX2_takeOneOf 32 = .ok (.invokevirtual 21, 3) := by decide +kernel
theorem dX2_takeOneOf_35 : decode cX2_takeOneOf 35 = .ok (.ifCond .eq 10, 3) := by decide +kernel
theorem dX2_takeOneOf_38 : decode cX2_takeOneOf 38 = .ok (.aload_n 0, 1) := by decide +kernel
theorem dX2_takeOneOf_39 : decode cX2_takeOneOf 39 = .ok (.iload_n 2, 1) := by decide +kernel
theorem dX2_takeOneOf_40 : decode cX2_takeOneOf 40 = .ok (.invokevirtual 25, 3) := by decide +kernel
theorem dX2_takeOneOf_43 : decode cX2_takeOneOf 43 = .ok (.aload_n 3, 1) := by decide +kernel
theorem dX2_takeOneOf_44 : decode cX2_takeOneOf 44 = .ok (.areturn, 1) := by decide +kernel
theorem dX2_takeOneOf_45 : decode cX2_takeOneOf 45 = .ok (.iinc 2 1, 3) := by decide +kernel
theorem dX2_takeOneOf_48 : decode cX2_takeOneOf 48 = .ok (.goto (-46), 3) := by decide +kernel
theorem dX2_takeOneOf_51 : decode cX2_takeOneOf 51 = .ok (.aconst_null, 1) := by decide +kernel
theorem dX2_takeOneOf_52 : decode cX2_takeOneOf 52 = .ok (.areturn, 1) := by decide +kernel
theorem dX2_takeOut_0 : decode cX2_takeOut 0 = .ok (.iconst 0, 1) := by decide +kernel
theorem dX2_takeOut_1 : decode cX2_takeOut 1 = .ok (.istore_n 2, 1) := by decide +kernel
theorem dX2_takeOut_2 : decode cX2_takeOut 2 = .ok (.iload_n 2, 1) := by decide +kernel
theorem dX2_takeOut_3 : decode cX2_takeOut 3 = .ok (.aload_n 0, 1) := by decide +kernel
theorem dX2_takeOut_4 : decode cX2_takeOut 4 = .ok (.getfield 17, 3) := by decide +kernel
theorem dX2_takeOut_7 : decode cX2_takeOut 7 = .ok (.if_icmp .ge 34, 3) := by decide +kernel
theorem dX2_takeOut_10 : decode cX2_takeOut 10 = .ok (.iload_n 2, 1) := by decide +kernel
theorem dX2_takeOut_11 : decode cX2_takeOut 11 = .ok (.aload_n 0, 1) := by decide +kernel
theorem dX2_takeOut_12 : decode cX2_takeOut 12 = .ok (.getfield 11, 3) := by decide +kernel
theorem dX2_takeOut_15 : decode cX2_takeOut 15 = .ok (.arraylength, 1) := by decide +kernel
theorem dX2_takeOut_16 : decode cX2_takeOut 16 = .ok (.if_icmp .ge 25, 3) := by decide +kernel
theorem dX2_takeOut_19 : decode cX2_takeOut 19 = .ok (.aload_n 0, 1) := by decide +kernel
theorem dX2_takeOut_20 : decode cX2_takeOut 20 = .ok (.getfield 11, 3) := by decide +kernel
theorem dX2_takeOut_23 : decode cX2_takeOut 23 = .ok (.iload_n 2, 1) := by decide +kernel
theorem dX2_takeOut_24 : decode cX2_takeOut 24 = .ok (.aaload, 1) := by decide +kernel
theorem dX2_takeOut_25 : decode cX2_takeOut 25 = .ok (.aload_n 1, 1) := by decide +kernel
theorem dX2_takeOut_26 : decode cX2_takeOut 26 = .ok (.if_acmp .ne 9, 3) := by decide +kernel
theorem dX2_takeOut_29 : decode cX2_takeOut 29 = .ok (.aload_n 0, 1) := by decide +kernel
theorem dX2_takeOut_30 : decode cX2_takeOut 30 = .ok (.iload_n 2, 1) := by decide +kernel
theorem dX2_takeOut_31 : decode cX2_takeOut 31 = .ok (.invokevirtual 25, 3) := by decide +kernel
theorem dX2_takeOut_34 : decode cX2_takeOut 34 = .ok (.return_, 1) := by decide +kernel
theorem dX2_takeOut_35 : decode cX2_takeOut 35 = .ok (.iinc 2 1, 3) := by decide +kernel
theorem dX2_takeOut_38 : decode cX2_takeOut 38 = .ok (.goto (-36), 3) := by decide +kernel
theorem dX2_takeOut_41 : decode cX2_takeOut 41 = .ok (.return_, 1) := by decide +kernel
theorem dX2_takeAt_0 : decode cX2_takeAt 0 = .ok (.iload_n 1, 1) := by decide +kernel
theorem dX2_takeAt_1 : decode cX2_takeAt 1 = .ok (.ifCond .lt 23, 3) := by decide +kernel
theorem dX2_takeAt_4 : decode cX2_takeAt 4 = .ok (.aload_n 0, 1) := by decide +kernel
theorem dX2_takeAt_5 : decode cX2_takeAt 5 = .ok (.getfield 17, 3) := by decide +kernel
theorem dX2_takeAt_8 : decode cX2_takeAt 8 = .ok (.iconst 1, 1) := by decide +kernel
theorem dX2_takeAt_9 : decode cX2_takeAt 9 = .ok (.if_icmp .lt 15, 3) := by decide +kernel
theorem dX2_takeAt_12 : decode cX2_takeAt 12 = .ok (.aload_n 0, 1) := by decide +kernel
theorem dX2_takeAt_13 : decode cX2_takeAt 13 = .ok (.getfield 17, 3) := by decide +kernel
theorem dX2_takeAt_16 : decode cX2_takeAt 16 = .ok (.aload_n 0, 1) := by decide +kernel
theorem dX2_takeAt_17 : decode cX2_takeAt 17 = .ok (.getfield 11, 3) := by decide +kernel
theorem dX2_takeAt_20 : decode cX2_takeAt 20 = .ok (.arraylength, 1) := by decide +kernel
theorem dX2_takeAt_21 : decode cX2_takeAt 21 = .ok (.if_icmp .le 4, 3) := by decide +kernel
theorem dX2_takeAt_24 : decode cX2_takeAt 24 = .ok (.return_, 1) := by decide +kernel
theorem dX2_takeAt_25 : decode cX2_takeAt 25 = .ok (.iload_n 1, 1) := by decide +kernel
theorem dX2_takeAt_26 : decode cX2_takeAt 26 = .ok (.istore_n 2, 1) := by decide +kernel
theorem dX2_takeAt_27 : decode cX2_takeAt 27 = .ok (.iload_n 2, 1) := by decide +kernel
theorem dX2_takeAt_28 : decode cX2_takeAt 28 = .ok (.iconst 1, 1) := by decide +kernel
theorem dX2_takeAt_29 : decode cX2_takeAt 29 = .ok (.iadd, 1) := by decide +kernel
theorem dX2_takeAt_30 : decode cX2_takeAt 30 = .ok (.aload_n 0, 1) := by decide +kernel
theorem dX2_takeAt_31 : decode cX2_takeAt 31 = .ok (.getfield 17, 3) := by decide +kernel
theorem dX2_takeAt_34 : decode cX2_takeAt 34 = .ok (.if_icmp .ge 23, 3) := by decide +kernel
theorem dX2_takeAt_37 : decode cX2_takeAt 37 = .ok (.aload_n 0, 1) := by decide +kernel
theorem dX2_takeAt_38 : decode cX2_takeAt 38 = .ok (.getfield 11, 3) := by decide +kernel
theorem dX2_takeAt_41 : decode cX2_takeAt 41 = .ok (.iload_n 2, 1) := by decide +kernel
theorem dX2_takeAt_42 : decode cX2_takeAt 42 = .ok (.aload_n 0, 1) := by decide +kernel
theorem dX2_takeAt_43 : decode cX2_takeAt 43 = .ok (.getfield 11, 3) := by decide +kernel
theorem dX2_takeAt_46 : decode cX2_takeAt 46 = .ok (.iload_n 2, 1) := by decide +kernel
theorem dX2_takeAt_47 : decode cX2_takeAt 47 = .ok (.iconst 1, 1) := by decide +kernel
theorem dX2_takeAt_48 : decode cX2_takeAt 48 = .ok (.iadd, 1) := by decide +kernel
theorem dX2_takeAt_49 : decode cX2_takeAt 49 = .ok (.aaload, 1) := by decide +kernel
theorem dX2_takeAt_50 : decode cX2_takeAt 50 = .ok (.aastore, 1) := by decide +kernel
theorem dX2_takeAt_51 : decode cX2_takeAt 51 = .ok (.iinc 2 1, 3) := by decide +kernel
theorem dX2_takeAt_54 : decode cX2_takeAt 54 = .ok (.goto (-27), 3) := by decide +kernel
theorem dX2_takeAt_57 : decode cX2_takeAt 57 = .ok (.aload_n 0, 1) := by decide +kernel
theorem dX2_takeAt_58 : decode cX2_takeAt 58 = .ok (.dup, 1) := by decide +kernel
theorem dX2_takeAt_59 : decode cX2_takeAt 59 = .ok (.getfield 17, 3) := by decide +kernel
theorem dX2_takeAt_62 : decode cX2_takeAt 62 = .ok (.iconst 1, 1) := by decide +kernel
theorem dX2_takeAt_63 : decode cX2_takeAt 63 = .ok (.isub, 1) := by decide +kernel
theorem dX2_takeAt_64 : decode cX2_takeAt 64 = .ok (.putfield 17, 3) := by decide +kernel
theorem dX2_takeAt_67 : decode cX2_takeAt 67 = .ok (.aload_n 0, 1) := by decide +kernel
theorem dX2_takeAt_68 : decode cX2_takeAt 68 = .ok (.getfield 11, 3) := by decide +kernel
theorem dX2_takeAt_71 : decode cX2_takeAt 71 = .ok (.aload_n 0, 1) := by decide +kernel
theorem dX2_takeAt_72 : decode cX2_takeAt 72 = .ok (.getfield 17, 3) := by decide +kernel
theorem dX2_takeAt_75 : decode cX2_takeAt 75 = .ok (.aconst_null, 1) := by decide +kernel
theorem dX2_takeAt_76 : decode cX2_takeAt 76 = .ok (.aastore, 1) := by decide +kernel
theorem dX2_takeAt_77 : decode cX2_takeAt 77 = .ok (.return_, 1) := by decide +kernel
theorem dX2_countOf_0 : decode cX2_countOf 0 = .ok (.iconst 0, 1) := by decide +kernel
theorem dX2_countOf_1 : decode cX2_countOf 1 = .ok (.istore_n 2, 1) := by decide +kernel
theorem dX2_countOf_2 : decode cX2_countOf 2 = .ok (.iconst 0, 1) := by decide +kernel
theorem dX2_countOf_3 : decode cX2_countOf 3 = .ok (.istore_n 3, 1) := by decide +kernel
theorem dX2_countOf_4 : decode cX2_countOf 4 = .ok (.iload_n 3, 1) := by decide +kernel
theorem dX2_countOf_5 : decode cX2_countOf 5 = .ok (.aload_n 0, 1) := by decide +kernel
theorem dX2_countOf_6 : decode cX2_countOf 6 = .ok (.getfield 17, 3) := by decide +kernel
theorem dX2_countOf_9 : decode cX2_countOf 9 = .ok (.if_icmp .ge 31, 3) := by decide +kernel
theorem dX2_countOf_12 : decode cX2_countOf 12 = .ok (.iload_n 3, 1) := by decide +kernel
theorem dX2_countOf_13 : decode cX2_countOf 13 = .ok (.aload_n 0, 1) := by decide +kernel
theorem dX2_countOf_14 : decode cX2_countOf 14 = .ok (.getfield 11, 3) := by decide +kernel
theorem dX2_countOf_17 : decode cX2_countOf 17 = .ok (.arraylength, 1) := by decide +kernel
theorem dX2_countOf_18 : decode cX2_countOf 18 = .ok (.if_icmp .ge 22, 3) := by decide +kernel
theorem dX2_countOf_21 : decode cX2_countOf 21 = .ok (.aload_n 0, 1) := by decide +kernel
theorem dX2_countOf_22 : decode cX2_countOf 22 = .ok (.getfield 11, 3) := by decide +kernel
theorem dX2_countOf_25 : decode cX2_countOf 25 = .ok (.iload_n 3, 1) := by decide +kernel
theorem dX2_countOf_26 : decode cX2_countOf 26 = .ok (.aaload, 1) := by decide +kernel
theorem dX2_countOf_27 : decode cX2_countOf 27 = .ok (.aload_n 1, 1) := by decide +kernel
theorem dX2_countOf_28 : decode cX2_countOf 28 = .ok (.if_acmp .ne 6, 3) := by decide +kernel
theorem dX2_countOf_31 : decode cX2_countOf 31 = .ok (.iinc 2 1, 3) := by decide +kernel
theorem dX2_countOf_34 : decode cX2_countOf 34 = .ok (.iinc 3 1, 3) := by decide +kernel
theorem dX2_countOf_37 : decode cX2_countOf 37 = .ok (.goto (-33), 3) := by decide +kernel
theorem dX2_countOf_40 : decode cX2_countOf 40 = .ok (.iload_n 2, 1) := by decide +kernel
theorem dX2_countOf_41 : decode cX2_countOf 41 = .ok (.ireturn, 1) := by decide +kernel
theorem dX3_init_0 : decode cX3_init 0 = .ok (.aload_n 0, 1) := by decide +kernel
theorem dX3_init_1 : decode cX3_init 1 = .ok (.invokespecial 3, 3) := by decide +kernel
theorem dX3_init_4 : decode cX3_init 4 = .ok (.aload_n 0, 1) := by decide +kernel
theorem dX3_init_5 : decode cX3_init 5 = .ok (.new 9, 3) := by decide +kernel
theorem dX3_init_8 : decode cX3_init 8 = .ok (.dup, 1) := by decide +kernel
theorem dX3_init_9 : decode cX3_init 9 = .ok (.invokespecial 11, 3) := by decide +kernel
theorem dX3_init_12 : decode cX3_init 12 = .ok (.putfield 12, 3) := by decide +kernel
theorem dX3_init_15 : decode cX3_init 15 = .ok (.aload_n 0, 1) := by decide +kernel
theorem dX3_init_16 : decode cX3_init 16 = .ok (.iconst 4, 1) := by decide +kernel
theorem dX3_init_17 : decode cX3_init 17 = .ok (.anewarray 18, 3) := by decide +kernel
theorem dX3_init_20 : decode cX3_init 20 = .ok (.putfield 20, 3) := by decide +kernel
theorem dX3_init_23 : decode cX3_init 23 = .ok (.aload_n 0, 1) := by decide +kernel
theorem dX3_init_24 : decode cX3_init 24 = .ok (.new 24, 3) := by decide +kernel
theorem dX3_init_27 : decode cX3_init 27 = .ok (.dup, 1) := by decide +kernel
theorem dX3_init_28 : decode cX3_init 28 = .ok (.invokespecial 26, 3) := by decide +kernel
theorem dX3_init_31 : decode cX3_init 31 = .ok (.putfield 27, 3) := by decide +kernel
theorem dX3_init_34 : decode cX3_init 34 = .ok (.aload_n 0, 1) := by decide +kernel
theorem dX3_init_35 : decode cX3_init 35 = .ok (.new 24, 3) := by decide +kernel
theorem dX3_init_38 : decode cX3_init 38 = .ok (.dup, 1) := by decide +kernel
theorem dX3_init_39 : decode cX3_init 39 = .ok (.invokespecial 26, 3) := by decide +kernel
theorem dX3_init_42 : decode cX3_init 42 = .ok (.putfield 31, 3) := by decide +kernel
theorem dX3_init_45 : decode cX3_init 45 = .ok (.aload_n 0, 1) := by decide +kernel
theorem dX3_init_46 : decode cX3_init 46 = .ok (.new 24, 3) := by decide +kernel
theorem dX3_init_49 : decode cX3_init 49 = .ok (.dup, 1) := by decide +kernel
theorem dX3_init_50 : decode cX3_init 50 = .ok (.invokespecial 26, 3) := by decide +kernel
theorem dX3_init_53 : decode cX3_init 53 = .ok (.putfield 34, 3) := by decide +kernel
theorem dX3_init_56 : decode cX3_init 56 = .ok (.aload_n 0, 1) := by decide +kernel
theorem dX3_init_57 : decode cX3_init 57 = .ok (.iconst (-1), 1) := by decide +kernel
theorem dX3_init_58 : decode cX3_init 58 = .ok (.putfield 37, 3) := by decide +kernel
theorem dX3_init_61 : decode cX3_init 61 = .ok (.aload_n 0, 1) := by decide +kernel
theorem dX3_init_62 : decode cX3_init 62 = .ok (.iload_n 1, 1) := by decide +kernel
theorem dX3_init_63 : decode cX3_init 63 = .ok (.putfield 41, 3) := by decide +kernel
theorem dX3_init_66 : decode cX3_init 66 = .ok (.aload_n 0, 1) := by decide +kernel
theorem dX3_init_67 : decode cX3_init 67 = .ok (.iload_n 2, 1) := by decide +kernel
theorem dX3_init_68 : decode cX3_init 68 = .ok (.putfield 44, 3) := by decide +kernel
theorem dX3_init_71 : decode cX3_init 71 = .ok (.aload_n 0, 1) := by decide +kernel
theorem dX3_init_72 : decode cX3_init 72 = .ok (.iload_n 3, 1) := by decide +kernel
theorem dX3_init_73 : decode cX3_init 73 = .ok (.putfield 47, 3) := by decide +kernel
theorem dX3_init_76 : decode cX3_init 76 = .ok (.return_, 1) := by decide +kernel
theorem dX3_trainOrNull_0 : decode cX3_trainOrNull 0 = .ok (.iload_n 1, 1) := by decide +kernel
theorem dX3_trainOrNull_1 : decode cX3_trainOrNull 1 = .ok (.ifCond .lt 21, 3) := by decide +kernel
theorem dX3_trainOrNull_4 : decode cX3_trainOrNull 4 = .ok (.iload_n 1, 1) := by decide +kernel
theorem dX3_trainOrNull_5 : decode cX3_trainOrNull 5 = .ok (.aload_n 0, 1) := by decide +kernel
theorem dX3_trainOrNull_6 : decode cX3_trainOrNull 6 = .ok (.getfield 20, 3) := by decide +kernel
theorem dX3_trainOrNull_9 : decode cX3_trainOrNull 9 = .ok (.arraylength, 1) := by decide +kernel
theorem dX3_trainOrNull_10 : decode cX3_trainOrNull 10 = .ok (.if_icmp .ge 12, 3) := by decide +kernel
theorem dX3_trainOrNull_13 : decode cX3_trainOrNull 13 = .ok (.aload_n 0, 1) := by decide +kernel
theorem dX3_trainOrNull_14 : decode cX3_trainOrNull 14 = .ok (.getfield 20, 3) := by decide +kernel
theorem dX3_trainOrNull_17 : decode cX3_trainOrNull 17 = .ok (.iload_n 1, 1) := by decide +kernel
theorem dX3_trainOrNull_18 : decode cX3_trainOrNull 18 = .ok (.aaload, 1) := by decide +kernel
theorem dX3_trainOrNull_19 : decode cX3_trainOrNull 19 = .ok (.goto 4, 3) := by decide +kernel
theorem dX3_trainOrNull_22 : decode cX3_trainOrNull 22 = .ok (.aconst_null, 1) := by decide +kernel
theorem dX3_trainOrNull_23 : decode cX3_trainOrNull 23 = .ok (.areturn, 1) := by decide +kernel
theorem dX3_lineOrNull_0 : decode cX3_lineOrNull 0 = .ok (.iload_n 1, 1) := by decide +kernel
theorem dX3_lineOrNull_1 : decode cX3_lineOrNull 1 = .ok (.bipush 108, 2) := by decide +kernel
theorem dX3_lineOrNull_3 : decode cX3_lineOrNull 3 = .ok (.if_icmp .ne 8, 3) := by decide +kernel
theorem dX3_lineOrNull_6 : decode cX3_lineOrNull 6 = .ok (.aload_n 0, 1) := by decide +kernel
theorem dX3_lineOrNull_7 : decode cX3_lineOrNull 7 = .ok (.getfield 27, 3) := by decide +kernel
theorem dX3_lineOrNull_10 : decode cX3_lineOrNull 10 = .ok (.areturn, 1) := by decide +kernel
theorem dX3_lineOrNull_11 : decode cX3_lineOrNull 11 = .ok (.iload_n 1, 1) := by decide +kernel
theorem dX3_lineOrNull_12 : decode cX3_lineOrNull 12 = .ok (.bipush 115, 2) := by decide +kernel
theorem dX3_lineOrNull_14 : decode cX3_lineOrNull 14 = .ok (.if_icmp .ne 8, 3) := by decide +kernel
theorem dX3_lineOrNull_17 : decode cX3_lineOrNull 17 = .ok (.aload_n 0, 1) := by decide +kernel
theorem dX3_lineOrNull_18 : decode cX3_lineOrNull 18 = .ok (.getfield 31, 3) := by decide +kernel
theorem dX3_lineOrNull_21 : decode cX3_lineOrNull 21 = .ok (.areturn, 1) := by decide +kernel
theorem dX3_lineOrNull_22 : decode cX3_lineOrNull 22 = .ok (.iload_n 1, 1) := by decide +kernel
theorem dX3_lineOrNull_23 : decode cX3_lineOrNull 23 = .ok (.bipush 114, 2) := by decide +kernel
theorem dX3_lineOrNull_25 : decode cX3_lineOrNull 25 = .ok (.if_icmp .ne 10, 3) := by decide +kernel
theorem dX3_lineOrNull_28 : decode cX3_lineOrNull 28 = .ok (.aload_n 0, 1) := by decide +kernel
theorem dX3_lineOrNull_29 : decode cX3_lineOrNull 29 = .ok (.getfield 34, 3) := by decide +kernel
theorem dX3_lineOrNull_32 : decode cX3_lineOrNull 32 = .ok (.goto 4, 3) := by decide +kernel
theorem dX3_lineOrNull_35 : decode cX3_lineOrNull 35 = .ok (.aconst_null, 1) := by decide +kernel
theorem dX3_lineOrNull_36 : decode cX3_lineOrNull 36 = .ok (.areturn, 1) := by decide +kernel
theorem dX3_putTrain_0 : decode cX3_putTrain 0 = .ok (.aload_n 0, 1) := by decide +kernel
theorem dX3_putTrain_1 : decode cX3_putTrain 1 = .ok (.getfield 50, 3) := by decide +kernel
theorem dX3_putTrain_4 : decode cX3_putTrain 4 = .ok (.ifCond .lt 15, 3) := by decide +kernel
theorem dX3_putTrain_7 : decode cX3_putTrain 7 = .ok (.aload_n 0, 1) := by decide +kernel
theorem dX3_putTrain_8 : decode cX3_putTrain 8 = .ok (.getfield 50, 3) := by decide +kernel
theorem dX3_putTrain_11 : decode cX3_putTrain 11 = .ok (.aload_n 0, 1) := by decide +kernel
theorem dX3_putTrain_12 : decode cX3_putTrain 12 = .ok (.getfield 20, 3) := by decide +kernel
theorem dX3_putTrain_15 : decode cX3_putTrain 15 = .ok (.arraylength, 1) := by decide +kernel
theorem dX3_putTrain_16 : decode cX3_putTrain 16 = .ok (.if_icmp .lt 5, 3) := by decide +kernel
theorem dX3_putTrain_19 : decode cX3_putTrain 19 = .ok (.iconst (-1), 1) := by decide +kernel
theorem dX3_putTrain_20 : decode cX3_putTrain 20 = .ok (.ireturn, 1) := by decide +kernel
theorem dX3_putTrain_21 : decode cX3_putTrain 21 = .ok (.aload_n 0, 1) := by decide +kernel
theorem dX3_putTrain_22 : decode cX3_putTrain 22 = .ok (.getfield 20, 3) := by decide +kernel
theorem dX3_putTrain_25 : decode cX3_putTrain 25 = .ok (.aload_n 0, 1) := by decide +kernel
theorem dX3_putTrain_26 : decode cX3_putTrain 26 = .ok (.getfield 50, 3) := by decide +kernel
theorem dX3_putTrain_29 : decode cX3_putTrain 29 = .ok (.aload_n 1, 1) := by decide +kernel
theorem dX3_putTrain_30 : decode cX3_putTrain 30 = .ok (.aastore, 1) := by decide +kernel
theorem dX3_putTrain_31 : decode cX3_putTrain 31 = .ok (.aload_n 0, 1) := by decide +kernel
theorem dX3_putTrain_32 : decode cX3_putTrain 32 = .ok (.dup, 1) := by decide +kernel
theorem dX3_putTrain_33 : decode cX3_putTrain 33 = .ok (.getfield 50, 3) := by decide +kernel
theorem dX3_putTrain_36 : decode cX3_putTrain 36 = .ok (.iconst 1, 1) := by decide +kernel
theorem dX3_putTrain_37 : decode cX3_putTrain 37 = .ok (.iadd, 1) := by decide +kernel
theorem dX3_putTrain_38 : decode cX3_putTrain 38 = .ok (.putfield 50, 3) := by decide +kernel
theorem dX3_putTrain_41 : decode cX3_putTrain 41 = .ok (.aload_n 0, 1) := by decide +kernel
theorem dX3_putTrain_42 : decode cX3_putTrain 42 = .ok (.getfield 50, 3) := by decide +kernel
theorem dX3_putTrain_45 : decode cX3_putTrain 45 = .ok (.iconst 1, 1) := by decide +kernel
theorem dX3_putTrain_46 : decode cX3_putTrain 46 = .ok (.isub, 1) := by decide +kernel
theorem dX3_putTrain_47 : decode cX3_putTrain 47 = .ok (.ireturn, 1) := by decide +kernel
theorem dX3_isLockedBy_0 : decode cX3_isLockedBy 0 = .ok (.aload_n 0, 1) := by decide +kernel
theorem dX3_isLockedBy_1 : decode cX3_isLockedBy 1 = .ok (.getfield 53, 3) := by decide +kernel
theorem dX3_isLockedBy_4 : decode cX3_isLockedBy 4 = .ok (.iconst 1, 1) := by decide +kernel
theorem dX3_isLockedBy_5 : decode cX3_isLockedBy 5 = .ok (.iload_n 1, 1) := by decide +kernel
theorem dX3_isLockedBy_6 : decode cX3_isLockedBy 6 = .ok (.ishl, 1) := by decide +kernel
theorem dX3_isLockedBy_7 : decode cX3_isLockedBy 7 = .ok (.iand, 1) := by decide +kernel
theorem dX3_isLockedBy_8 : decode cX3_isLockedBy 8 = .ok (.ifCond .eq 7, 3) := by decide +kernel
theorem dX3_isLockedBy_11 : decode cX3_isLockedBy 11 = .ok (.iconst 1, 1) := by decide +kernel
theorem dX3_isLockedBy_12 : decode cX3_isLockedBy 12 = .ok (.goto 4, 3) := by decide +kernel
theorem dX3_isLockedBy_15 : decode cX3_isLockedBy 15 = .ok (.iconst 0, 1) := by decide +kernel
theorem dX3_isLockedBy_16 : decode cX3_isLockedBy 16 = .ok (.ireturn, 1) := by decide +kernel
theorem dX3_trainIn_0 : decode cX3_trainIn 0 = .ok (.aload_n 0, 1) := by decide +kernel
theorem dX3_trainIn_1 : decode cX3_trainIn 1 = .ok (.getfield 20, 3) := by decide +kernel
theorem dX3_trainIn_4 : decode cX3_trainIn 4 = .ok (.astore_n 2, 1) := by decide +kernel
theorem dX3_trainIn_5 : decode cX3_trainIn 5 = .ok (.aload_n 2, 1) := by decide +kernel
theorem dX3_trainIn_6 : decode cX3_trainIn 6 = .ok (.arraylength, 1) := by decide +kernel
theorem dX3_trainIn_7 : decode cX3_trainIn 7 = .ok (.istore_n 3, 1) := by decide +kernel
theorem dX3_trainIn_8 : decode cX3_trainIn 8 = .ok (.iconst 0, 1) := by decide +kernel
theorem dX3_trainIn_9 : decode cX3_trainIn 9 = .ok (.istore 4, 2) := by decide +kernel
theorem dX3_trainIn_11 : decode cX3_trainIn 11 = .ok (.iload 4, 2) := by decide +kernel
theorem dX3_trainIn_13 : decode cX3_trainIn 13 = .ok (.iload_n 3, 1) := by decide +kernel
theorem dX3_trainIn_14 : decode cX3_trainIn 14 = .ok (.if_icmp .ge 32, 3) := by decide +kernel
theorem dX3_trainIn_17 : decode cX3_trainIn 17 = .ok (.aload_n 2, 1) := by decide +kernel
theorem dX3_trainIn_18 : decode cX3_trainIn 18 = .ok (.iload 4, 2) := by decide +kernel
theorem dX3_trainIn_20 : decode cX3_trainIn 20 = .ok (.aaload, 1) := by decide +kernel
theorem dX3_trainIn_21 : decode cX3_trainIn 21 = .ok (.astore 5, 2) := by decide +kernel
theorem dX3_trainIn_23 : decode cX3_trainIn 23 = .ok (.aload 5, 2) := by decide +kernel
theorem dX3_trainIn_25 : decode cX3_trainIn 25 = .ok (.ifnull 15, 3) := by decide +kernel
theorem dX3_trainIn_28 : decode cX3_trainIn 28 = .ok (.aload 5, 2) := by decide +kernel
theorem dX3_trainIn_30 : decode cX3_trainIn 30 = .ok (.getfield 56, 3) := by decide +kernel
theorem dX3_trainIn_33 : decode cX3_trainIn 33 = .ok (.iload_n 1, 1) := by decide +kernel
theorem dX3_trainIn_34 : decode cX3_trainIn 34 = .ok (.if_icmp .ne 6, 3) := by decide +kernel
theorem dX3_trainIn_37 : decode cX3_trainIn 37 = .ok (.aload 5, 2) := by decide +kernel
theorem dX3_trainIn_39 : decode cX3_trainIn 39 = .ok (.areturn, 1) := by decide +kernel
theorem dX3_trainIn_40 : decode cX3_trainIn 40 = .ok (.iinc 4 1, 3) := by decide +kernel
theorem dX3_trainIn_43 : decode cX3_trainIn 43 = .ok (.goto (-32), 3) := by decide +kernel
theorem dX3_trainIn_46 : decode cX3_trainIn 46 = .ok (.aconst_null, 1) := by decide +kernel
theorem dX3_trainIn_47 : decode cX3_trainIn 47 = .ok (.areturn, 1) := by decide +kernel
theorem dX3_trainInStation_0 : decode cX3_trainInStation 0 = .ok (.aload_n 0, 1) := by decide +kernel
theorem dX3_trainInStation_1 : decode cX3_trainInStation 1 = .ok (.iconst 0, 1) := by decide +kernel
theorem dX3_trainInStation_2 : decode cX3_trainInStation 2 = .ok (.invokevirtual 59, 3) := by decide +kernel
theorem dX3_trainInStation_5 : decode cX3_trainInStation 5 = .ok (.astore_n 1, 1) := by decide +kernel
theorem dX3_trainInStation_6 : decode cX3_trainInStation 6 = .ok (.aload_n 1, 1) := by decide +kernel
theorem dX3_trainInStation_7 : decode cX3_trainInStation 7 = .ok (.ifnull 16, 3) := by decide +kernel
theorem dX3_trainInStation_10 : decode cX3_trainInStation 10 = .ok (.aload_n 1, 1) := by decide +kernel
theorem dX3_trainInStation_11 : decode cX3_trainInStation 11 = .ok (.getfield 63, 3) := by decide +kernel
theorem dX3_trainInStation_14 : decode cX3_trainInStation 14 = .ok (.bipush 115, 2) := by decide +kernel
theorem dX3_trainInStation_16 : decode cX3_trainInStation 16 = .ok (.if_icmp .ne 7, 3) := by decide +kernel
theorem dX3_trainInStation_19 : decode cX3_trainInStation 19 = .ok (.aload_n 1, 1) := by decide +kernel
theorem dX3_trainInStation_20 : decode cX3_trainInStation 20 = .ok (.goto 4, 3) := by decide +kernel
theorem dX3_trainInStation_23 : decode cX3_trainInStation 23 = .ok (.aconst_null, 1) := by decide +kernel
theorem dX3_trainInStation_24 : decode cX3_trainInStation 24 = .ok (.areturn, 1) := by decide +kernel
theorem dX3_countTrains_0 : decode cX3_countTrains 0 = .ok (.iconst 0, 1) := by decide +kernel
theorem dX3_countTrains_1 : decode cX3_countTrains 1 = .ok (.istore_n 2, 1) := by decide +kernel
theorem dX3_countTrains_2 : decode cX3_countTrains 2 = .ok (.aload_n 0, 1) := by decide +kernel
theorem dX3_countTrains_3 : decode cX3_countTrains 3 = .ok (.getfield 20, 3) := by decide +kernel
theorem dX3_countTrains_6 : decode cX3_countTrains 6 = .ok (.astore_n 3, 1) := by decide +kernel
theorem dX3_countTrains_7 : decode cX3_countTrains 7 = .ok (.aload_n 3, 1) := by decide +kernel
theorem dX3_countTrains_8 : decode cX3_countTrains 8 = .ok (.arraylength, 1) := by decide +kernel
theorem dX3_countTrains_9 : decode cX3_countTrains 9 = .ok (.istore 4, 2) := by decide +kernel
theorem dX3_countTrains_11 : decode cX3_countTrains 11 = .ok (.iconst 0, 1) := by decide +kernel
theorem dX3_countTrains_12 : decode cX3_countTrains 12 = .ok (.istore 5, 2) := by decide +kernel
theorem dX3_countTrains_14 : decode cX3_countTrains 14 = .ok (.iload 5, 2) := by decide +kernel
theorem dX3_countTrains_16 : decode cX3_countTrains 16 = .ok (.iload 4, 2) := by decide +kernel
theorem dX3_countTrains_18 : decode cX3_countTrains 18 = .ok (.if_icmp .ge 32, 3) := by decide +kernel
theorem dX3_countTrains_21 : decode cX3_countTrains 21 = .ok (.aload_n 3, 1) := by decide +kernel
theorem dX3_countTrains_22 : decode cX3_countTrains 22 = .ok (.iload 5, 2) := by decide +kernel
theorem dX3_countTrains_24 : decode cX3_countTrains 24 = .ok (.aaload, 1) := by decide +kernel
theorem dX3_countTrains_25 : decode cX3_countTrains 25 = .ok (.astore 6, 2) := by decide +kernel
theorem dX3_countTrains_27 : decode cX3_countTrains 27 = .ok (.aload 6, 2) := by decide +kernel
theorem dX3_countTrains_29 : decode cX3_countTrains 29 = .ok (.ifnull 15, 3) := by decide +kernel
theorem dX3_countTrains_32 : decode cX3_countTrains 32 = .ok (.aload 6, 2) := by decide +kernel
theorem dX3_countTrains_34 : decode cX3_countTrains 34 = .ok (.getfield 63, 3) := by decide +kernel
theorem dX3_countTrains_37 : decode cX3_countTrains 37 = .ok (.iload_n 1, 1) := by decide +kernel
theorem dX3_countTrains_38 : decode cX3_countTrains 38 = .ok (.if_icmp .ne 6, 3) := by decide +kernel
theorem dX3_countTrains_41 : decode cX3_countTrains 41 = .ok (.iinc 2 1, 3) := by decide +kernel
theorem dX3_countTrains_44 : decode cX3_countTrains 44 = .ok (.iinc 5 1, 3) := by decide +kernel
theorem dX3_countTrains_47 : decode cX3_countTrains 47 = .ok (.goto (-33), 3) := by decide +kernel
theorem dX3_countTrains_50 : decode cX3_countTrains 50 = .ok (.iload_n 2, 1) := by decide +kernel
theorem dX3_countTrains_51 : decode cX3_countTrains 51 = .ok (.ireturn, 1) := by decide +kernel
theorem dX3_hasStalledTrain_0 : decode cX3_hasStalledTrain 0 = .ok (.aload_n 0, 1) := by decide +kernel
theorem dX3_hasStalledTrain_1 : decode cX3_hasStalledTrain 1 = .ok (.bipush 120, 2) := by decide +kernel
theorem dX3_hasStalledTrain_3 : decode cX3_hasStalledTrain 3 = .ok (.invokevirtual 67, 3) := by decide +kernel
theorem dX3_hasStalledTrain_6 : decode cX3_hasStalledTrain 6 = .ok (.ifCond .le 7, 3) := by decide +kernel
theorem dX3_hasStalledTrain_9 : decode cX3_hasStalledTrain 9 = .ok (.iconst 1, 1) := by decide +kernel
theorem dX3_hasStalledTrain_10 : decode cX3_hasStalledTrain 10 = .ok (.goto 4, 3) := by decide +kernel
theorem dX3_hasStalledTrain_13 : decode cX3_hasStalledTrain 13 = .ok (.iconst 0, 1) := by decide +kernel
theorem dX3_hasStalledTrain_14 : decode cX3_hasStalledTrain 14 = .ok (.ireturn, 1) := by decide +kernel
theorem dX3_isBlockHeld_0 : decode cX3_isBlockHeld 0 = .ok (.aload_n 0, 1) := by decide +kernel
theorem dX3_isBlockHeld_1 : decode cX3_isBlockHeld 1 = .ok (.getfield 20, 3) := by decide +kernel
theorem dX3_isBlockHeld_4 : decode cX3_isBlockHeld 4 = .ok (.astore_n 2, 1) := by decide +kernel
theorem dX3_isBlockHeld_5 : decode cX3_isBlockHeld 5 = .ok (.aload_n 2, 1) := by decide +kernel
theorem dX3_isBlockHeld_6 : decode cX3_isBlockHeld 6 = .ok (.arraylength, 1) := by decide +kernel
theorem dX3_isBlockHeld_7 : decode cX3_isBlockHeld 7 = .ok (.istore_n 3, 1) := by decide +kernel
theorem dX3_isBlockHeld_8 : decode cX3_isBlockHeld 8 = .ok (.iconst 0, 1) := by decide +kernel
theorem dX3_isBlockHeld_9 : decode cX3_isBlockHeld 9 = .ok (.istore 4, 2) := by decide +kernel
theorem dX3_isBlockHeld_11 : decode cX3_isBlockHeld 11 = .ok (.iload 4, 2) := by decide +kernel
theorem dX3_isBlockHeld_13 : decode cX3_isBlockHeld 13 = .ok (.iload_n 3, 1) := by decide +kernel
theorem dX3_isBlockHeld_14 : decode cX3_isBlockHeld 14 = .ok (.if_icmp .ge 31, 3) := by decide +kernel
theorem dX3_isBlockHeld_17 : decode cX3_isBlockHeld 17 = .ok (.aload_n 2, 1) := by decide +kernel
theorem dX3_isBlockHeld_18 : decode cX3_isBlockHeld 18 = .ok (.iload 4, 2) := by decide +kernel
theorem dX3_isBlockHeld_20 : decode cX3_isBlockHeld 20 = .ok (.aaload, 1) := by decide +kernel
theorem dX3_isBlockHeld_21 : decode cX3_isBlockHeld 21 = .ok (.astore 5, 2) := by decide +kernel
theorem dX3_isBlockHeld_23 : decode cX3_isBlockHeld 23 = .ok (.aload 5, 2) := by decide +kernel
theorem dX3_isBlockHeld_25 : decode cX3_isBlockHeld 25 = .ok (.ifnull 14, 3) := by decide +kernel
theorem dX3_isBlockHeld_28 : decode cX3_isBlockHeld 28 = .ok (.aload 5, 2) := by decide +kernel
theorem dX3_isBlockHeld_30 : decode cX3_isBlockHeld 30 = .ok (.iload_n 1, 1) := by decide +kernel
theorem dX3_isBlockHeld_31 : decode cX3_isBlockHeld 31 = .ok (.invokevirtual 71, 3) := by decide +kernel
theorem dX3_isBlockHeld_34 : decode cX3_isBlockHeld 34 = .ok (.ifCond .eq 5, 3) := by decide +kernel
theorem dX3_isBlockHeld_37 : decode cX3_isBlockHeld 37 = .ok (.iconst 1, 1) := by decide +kernel
theorem dX3_isBlockHeld_38 : decode cX3_isBlockHeld 38 = .ok (.ireturn, 1) := by decide +kernel
theorem dX3_isBlockHeld_39 : decode cX3_isBlockHeld 39 = .ok (.iinc 4 1, 3) := by decide +kernel
theorem dX3_isBlockHeld_42 : decode cX3_isBlockHeld 42 = .ok (.goto (-31), 3) := by decide +kernel
theorem dX3_isBlockHeld_45 : decode cX3_isBlockHeld 45 = .ok (.iconst 0, 1) := by decide +kernel
theorem dX3_isBlockHeld_46 : decode cX3_isBlockHeld 46 = .ok (.ireturn, 1) := by decide +kernel
theorem dX3_blocksWithTrains_0 : decode cX3_blocksWithTrains 0 = .ok (.iconst 0, 1) := by decide +kernel
theorem dX3_blocksWithTrains_1 : decode cX3_blocksWithTrains 1 = .ok (.istore_n 1, 1) := by decide +kernel
theorem dX3_blocksWithTrains_2 : decode cX3_blocksWithTrains 2 = .ok (.aload_n 0, 1) := by decide +kernel
theorem dX3_blocksWithTrains_3 : decode cX3_blocksWithTrains 3 = .ok (.getfield 20, 3) := by decide +kernel
theorem dX3_blocksWithTrains_6 : decode cX3_blocksWithTrains 6 = .ok (.astore_n 2, 1) := by decide +kernel
theorem dX3_blocksWithTrains_7 : decode cX3_blocksWithTrains 7 = .ok (.aload_n 2, 1) := by decide +kernel
theorem dX3_blocksWithTrains_8 : decode cX3_blocksWithTrains 8 = .ok (.arraylength, 1) := by decide +kernel
theorem dX3_blocksWithTrains_9 : decode cX3_blocksWithTrains 9 = .ok (.istore_n 3, 1) := by decide +kernel
theorem dX3_blocksWithTrains_10 : decode cX3_blocksWithTrains 10 = .ok (.iconst 0, 1) := by decide +kernel
theorem dX3_blocksWithTrains_11 : decode cX3_blocksWithTrains 11 = .ok (.istore 4, 2) := by decide +kernel
theorem dX3_blocksWithTrains_13 : decode cX3_blocksWithTrains 13 = .ok (.iload 4, 2) := by decide +kernel
theorem dX3_blocksWithTrains_15 : decode cX3_blocksWithTrains 15 = .ok (.iload_n 3, 1) := by decide +kernel
theorem dX3_blocksWithTrains_16 : decode cX3_blocksWithTrains 16 = .ok (.if_icmp .ge 30, 3) := by decide +kernel
theorem dX3_blocksWithTrains_19 : decode cX3_blocksWithTrains 19 = .ok (.aload_n 2, 1) := by decide +kernel
theorem dX3_blocksWithTrains_20 : decode cX3_blocksWithTrains 20 = .ok (.iload 4, 2) := by decide +kernel
theorem dX3_blocksWithTrains_22 : decode cX3_blocksWithTrains 22 = .ok (.aaload, 1) := by decide +kernel
theorem dX3_blocksWithTrains_23 : decode cX3_blocksWithTrains 23 = .ok (.astore 5, 2) := by decide +kernel
theorem dX3_blocksWithTrains_25 : decode cX3_blocksWithTrains 25 = .ok (.aload 5, 2) := by decide +kernel
theorem dX3_blocksWithTrains_27 : decode cX3_blocksWithTrains 27 = .ok (.ifnull 13, 3) := by decide +kernel
theorem dX3_blocksWithTrains_30 : decode cX3_blocksWithTrains 30 = .ok (.iload_n 1, 1) := by decide +kernel
theorem dX3_blocksWithTrains_31 : decode cX3_blocksWithTrains 31 = .ok (.iconst 1, 1) := by decide +kernel
theorem dX3_blocksWithTrains_32 : decode cX3_blocksWithTrains 32 = .ok (.aload 5, 2) := by decide +kernel
theorem dX3_blocksWithTrains_34 : decode cX3_blocksWithTrains 34 = .ok (.getfield 56, 3) := by decide +kernel
theorem dX3_blocksWithTrains_37 : decode cX3_blocksWithTrains 37 = .ok (.ishl, 1) := by decide +kernel
theorem dX3_blocksWithTrains_38 : decode cX3_blocksWithTrains 38 = .ok (.ior, 1) := by decide +kernel
theorem dX3_blocksWithTrains_39 : decode cX3_blocksWithTrains 39 = .ok (.istore_n 1, 1) := by decide +kernel
theorem dX3_blocksWithTrains_40 : decode cX3_blocksWithTrains 40 = .ok (.iinc 4 1, 3) := by decide +kernel
theorem dX3_blocksWithTrains_43 : decode cX3_blocksWithTrains 43 = .ok (.goto (-30), 3) := by decide +kernel
theorem dX3_blocksWithTrains_46 : decode cX3_blocksWithTrains 46 = .ok (.iload_n 1, 1) := by decide +kernel
theorem dX3_blocksWithTrains_47 : decode cX3_blocksWithTrains 47 = .ok (.ireturn, 1) := by decide +kernel
theorem dX3_blocksSeenBy_0 : decode cX3_blocksSeenBy 0 = .ok (.aload_n 0, 1) := by decide +kernel
theorem dX3_blocksSeenBy_1 : decode cX3_blocksSeenBy 1 = .ok (.invokevirtual 75, 3) := by decide +kernel
theorem dX3_blocksSeenBy_4 : decode cX3_blocksSeenBy 4 = .ok (.istore_n 2, 1) := by decide +kernel
theorem dX3_blocksSeenBy_5 : decode cX3_blocksSeenBy 5 = .ok (.iconst 0, 1) := by decide +kernel
theorem dX3_blocksSeenBy_6 : decode cX3_blocksSeenBy 6 = .ok (.istore_n 3, 1) := by decide +kernel
theorem dX3_blocksSeenBy_7 : decode cX3_blocksSeenBy 7 = .ok (.iconst 0, 1) := by decide +kernel
theorem dX3_blocksSeenBy_8 : decode cX3_blocksSeenBy 8 = .ok (.istore 4, 2) := by decide +kernel
theorem dX3_blocksSeenBy_10 : decode cX3_blocksSeenBy 10 = .ok (.iload 4, 2) := by decide +kernel
theorem dX3_blocksSeenBy_12 : decode cX3_blocksSeenBy 12 = .ok (.aload_n 0, 1) := by decide +kernel
theorem dX3_blocksSeenBy_13 : decode cX3_blocksSeenBy 13 = .ok (.getfield 12, 3) := by decide +kernel
theorem dX3_blocksSeenBy_16 : decode cX3_blocksSeenBy 16 = .ok (.getfield 79, 3) := by decide +kernel
theorem dX3_blocksSeenBy_19 : decode cX3_blocksSeenBy 19 = .ok (.if_icmp .ge 55, 3) := by decide +kernel
theorem dX3_blocksSeenBy_22 : decode cX3_blocksSeenBy 22 = .ok (.aload_n 0, 1) := by decide +kernel
theorem dX3_blocksSeenBy_23 : decode cX3_blocksSeenBy 23 = .ok (.getfield 12, 3) := by decide +kernel
theorem dX3_blocksSeenBy_26 : decode cX3_blocksSeenBy 26 = .ok (.iload 4, 2) := by decide +kernel
theorem dX3_blocksSeenBy_28 : decode cX3_blocksSeenBy 28 = .ok (.invokevirtual 82, 3) := by decide +kernel
theorem dX3_blocksSeenBy_31 : decode cX3_blocksSeenBy 31 = .ok (.astore 5, 2) := by decide +kernel
theorem dX3_blocksSeenBy_33 : decode cX3_blocksSeenBy 33 = .ok (.aload 5, 2) := by decide +kernel
theorem dX3_blocksSeenBy_35 : decode cX3_blocksSeenBy 35 = .ok (.ifnull 33, 3) := by decide +kernel
theorem dX3_blocksSeenBy_38 : decode cX3_blocksSeenBy 38 = .ok (.aload 5, 2) := by decide +kernel
theorem dX3_blocksSeenBy_40 : decode cX3_blocksSeenBy 40 = .ok (.iload_n 1, 1) := by decide +kernel
theorem dX3_blocksSeenBy_41 : decode cX3_blocksSeenBy 41 = .ok (.iload_n 2, 1) := by decide +kernel
theorem dX3_blocksSeenBy_42 : decode cX3_blocksSeenBy 42 = .ok (.iconst 1, 1) := by decide +kernel
theorem dX3_blocksSeenBy_43 : decode cX3_blocksSeenBy 43 = .ok (.iload 4, 2) := by decide +kernel
theorem dX3_blocksSeenBy_45 : decode cX3_blocksSeenBy 45 = .ok (.ishl, 1) := by decide +kernel
theorem dX3_blocksSeenBy_46 : decode cX3_blocksSeenBy 46 = .ok (.iand, 1) := by decide +kernel
theorem dX3_blocksSeenBy_47 : decode cX3_blocksSeenBy 47 = .ok (.ifCond .eq 7, 3) := by decide +kernel
theorem dX3_blocksSeenBy_50 : decode cX3_blocksSeenBy 50 = .ok (.iconst 1, 1) := by decide +kernel
theorem dX3_blocksSeenBy_51 : decode cX3_blocksSeenBy 51 = .ok (.goto 4, 3) := by decide +kernel
theorem dX3_blocksSeenBy_54 : decode cX3_blocksSeenBy 54 = .ok (.iconst 0, 1) := by decide +kernel
theorem dX3_blocksSeenBy_55 : decode cX3_blocksSeenBy 55 = .ok (.invokevirtual 86, 3) := by decide +kernel
theorem dX3_blocksSeenBy_58 : decode cX3_blocksSeenBy 58 = .ok (.ifCond .eq 10, 3) := by decide +kernel
theorem dX3_blocksSeenBy_61 : decode cX3_blocksSeenBy 61 = .ok (.iload_n 3, 1) := by decide +kernel
theorem dX3_blocksSeenBy_62 : decode cX3_blocksSeenBy 62 = .ok (.iconst 1, 1) := by decide +kernel
theorem dX3_blocksSeenBy_63 : decode cX3_blocksSeenBy 63 = .ok (.iload 4, 2) := by decide +kernel
theorem dX3_blocksSeenBy_65 : decode cX3_blocksSeenBy 65 = .ok (.ishl, 1) := by decide +kernel
theorem dX3_blocksSeenBy_66 : decode cX3_blocksSeenBy 66 = .ok (.ior, 1) := by decide +kernel
theorem dX3_blocksSeenBy_67 : decode cX3_blocksSeenBy 67 = .ok (.istore_n 3, 1) := by decide +kernel
theorem dX3_blocksSeenBy_68 : decode cX3_blocksSeenBy 68 = .ok (.iinc 4 1, 3) := by decide +kernel
theorem dX3_blocksSeenBy_71 : decode cX3_blocksSeenBy 71 = .ok (.goto (-61), 3) := by decide +kernel
theorem dX3_blocksSeenBy_74 : decode cX3_blocksSeenBy 74 = .ok (.iload_n 3, 1) := by decide +kernel
theorem dX3_blocksSeenBy_75 : decode cX3_blocksSeenBy 75 = .ok (.ireturn, 1) := by decide +kernel
theorem dX3_isSeen_0 : decode cX3_isSeen 0 = .ok (.aload_n 0, 1) := by decide +kernel
theorem dX3_isSeen_1 : decode cX3_isSeen 1 = .ok (.iload_n 2, 1) := by decide +kernel
theorem dX3_isSeen_2 : decode cX3_isSeen 2 = .ok (.invokevirtual 92, 3) := by decide +kernel
theorem dX3_isSeen_5 : decode cX3_isSeen 5 = .ok (.iconst 1, 1) := by decide +kernel
theorem dX3_isSeen_6 : decode cX3_isSeen 6 = .ok (.iload_n 1, 1) := by decide +kernel
theorem dX3_isSeen_7 : decode cX3_isSeen 7 = .ok (.ishl, 1) := by decide +kernel
theorem dX3_isSeen_8 : decode cX3_isSeen 8 = .ok (.iand, 1) := by decide +kernel
theorem dX3_isSeen_9 : decode cX3_isSeen 9 = .ok (.ifCond .eq 7, 3) := by decide +kernel
theorem dX3_isSeen_12 : decode cX3_isSeen 12 = .ok (.iconst 1, 1) := by decide +kernel
theorem dX3_isSeen_13 : decode cX3_isSeen 13 = .ok (.goto 4, 3) := by decide +kernel
theorem dX3_isSeen_16 : decode cX3_isSeen 16 = .ok (.iconst 0, 1) := by decide +kernel
theorem dX3_isSeen_17 : decode cX3_isSeen 17 = .ok (.ireturn, 1) := by decide +kernel
theorem dX3_processorsDiffer_0 : decode cX3_processorsDiffer 0 = .ok (.aload_n 0, 1) := by decide +kernel
theorem dX3_processorsDiffer_1 : decode cX3_processorsDiffer 1 = .ok (.iconst 0, 1) := by decide +kernel
theorem dX3_processorsDiffer_2 : decode cX3_processorsDiffer 2 = .ok (.invokevirtual 92, 3) := by decide +kernel
theorem dX3_processorsDiffer_5 : decode cX3_processorsDiffer 5 = .ok (.aload_n 0, 1) := by decide +kernel
theorem dX3_processorsDiffer_6 : decode cX3_processorsDiffer 6 = .ok (.iconst 1, 1) := by decide +kernel
theorem dX3_processorsDiffer_7 : decode cX3_processorsDiffer 7 = .ok (.invokevirtual 92, 3) := by decide +kernel
theorem dX3_processorsDiffer_10 : decode cX3_processorsDiffer 10 = .ok (.if_icmp .eq 7, 3) := by decide +kernel
theorem dX3_processorsDiffer_13 : decode cX3_processorsDiffer 13 = .ok (.iconst 1, 1) := by decide +kernel
theorem dX3_processorsDiffer_14 : decode cX3_processorsDiffer 14 = .ok (.goto 4, 3) := by decide +kernel
theorem dX3_processorsDiffer_17 : decode cX3_processorsDiffer 17 = .ok (.iconst 0, 1) := by decide +kernel
theorem dX3_processorsDiffer_18 : decode cX3_processorsDiffer 18 = .ok (.ireturn, 1) := by decide +kernel
theorem dX3_compareProcessors_0 : decode cX3_compareProcessors 0 = .ok (.aload_n 0, 1) := by decide +kernel
theorem dX3_compareProcessors_1 : decode cX3_compareProcessors 1 = .ok (.invokevirtual 96, 3) := by decide +kernel
theorem dX3_compareProcessors_4 : decode cX3_compareProcessors 4 = .ok (.ifCond .eq 8, 3) := by decide +kernel
theorem dX3_compareProcessors_7 : decode cX3_compareProcessors 7 = .ok (.aload_n 0, 1) := by decide +kernel
theorem dX3_compareProcessors_8 : decode cX3_compareProcessors 8 = .ok (.iconst 1, 1) := by decide +kernel
theorem dX3_compareProcessors_9 : decode cX3_compareProcessors 9 = .ok (.putfield 100, 3) := by decide +kernel
theorem dX3_compareProcessors_12 : decode cX3_compareProcessors 12 = .ok (.return_, 1) := by decide +kernel
theorem dX3_whatKeepsInStation_0 : decode cX3_whatKeepsInStation 0 = .ok (.aload_n 0, 1) := by decide +kernel
theorem dX3_whatKeepsInStation_1 : decode cX3_whatKeepsInStation 1 = .ok (.invokevirtual 104, 3) := by decide +kernel
theorem dX3_whatKeepsInStation_4 : decode cX3_whatKeepsInStation 4 = .ok (.astore_n 3, 1) := by decide +kernel
theorem dX3_whatKeepsInStation_5 : decode cX3_whatKeepsInStation 5 = .ok (.aload_n 0, 1) := by decide +kernel
theorem dX3_whatKeepsInStation_6 : decode cX3_whatKeepsInStation 6 = .ok (.getfield 12, 3) := by decide +kernel
theorem dX3_whatKeepsInStation_9 : decode cX3_whatKeepsInStation 9 = .ok (.getfield 108, 3) := by decide +kernel
theorem dX3_whatKeepsInStation_12 : decode cX3_whatKeepsInStation 12 = .ok (.ifCond .eq 7, 3) := by decide +kernel
theorem dX3_whatKeepsInStation_15 : decode cX3_whatKeepsInStation 15 = .ok (.aload_n 3, 1) := by decide +kernel
theorem dX3_whatKeepsInStation_16 : decode cX3_whatKeepsInStation 16 = .ok (.ifnonnull 6, 3) := by decide +kernel
theorem dX3_whatKeepsInStation_19 : decode cX3_whatKeepsInStation 19 = .ok (.bipush 110, 2) := by decide +kernel
theorem dX3_whatKeepsInStation_21 : decode cX3_whatKeepsInStation 21 = .ok (.ireturn, 1) := by decide +kernel
theorem dX3_whatKeepsInStation_22 : decode cX3_whatKeepsInStation 22 = .ok (.aload_n 0, 1) := by decide +kernel
theorem dX3_whatKeepsInStation_23 : decode cX3_whatKeepsInStation 23 = .ok (.getfield 37, 3) := by decide +kernel
theorem dX3_whatKeepsInStation_26 : decode cX3_whatKeepsInStation 26 = .ok (.iconst (-1), 1) := by decide +kernel
theorem dX3_whatKeepsInStation_27 : decode cX3_whatKeepsInStation 27 = .ok (.if_icmp .ne 6, 3) := by decide +kernel
theorem dX3_whatKeepsInStation_30 : decode cX3_whatKeepsInStation 30 = .ok (.bipush 111, 2) := by decide +kernel
theorem dX3_whatKeepsInStation_32 : decode cX3_whatKeepsInStation 32 = .ok (.ireturn, 1) := by decide +kernel
theorem dX3_whatKeepsInStation_33 : decode cX3_whatKeepsInStation 33 = .ok (.aload_n 0, 1) := by decide +kernel
theorem dX3_whatKeepsInStation_34 : decode cX3_whatKeepsInStation 34 = .ok (.getfield 111, 3) := by decide +kernel
theorem dX3_whatKeepsInStation_37 : decode cX3_whatKeepsInStation 37 = .ok (.ifCond .eq 12, 3) := by decide +kernel
theorem dX3_whatKeepsInStation_40 : decode cX3_whatKeepsInStation 40 = .ok (.aload_n 0, 1) := by decide +kernel
theorem dX3_whatKeepsInStation_41 : decode cX3_whatKeepsInStation 41 = .ok (.getfield 114, 3) := by decide +kernel
theorem dX3_whatKeepsInStation_44 : decode cX3_whatKeepsInStation 44 = .ok (.bipush 50, 2) := by decide +kernel
theorem dX3_whatKeepsInStation_46 : decode cX3_whatKeepsInStation 46 = .ok (.if_icmp .lt 6, 3) := by decide +kernel
theorem dX3_whatKeepsInStation_49 : decode cX3_whatKeepsInStation 49 = .ok (.bipush 105, 2) := by decide +kernel
theorem dX3_whatKeepsInStation_51 : decode cX3_whatKeepsInStation 51 = .ok (.ireturn, 1) := by decide +kernel
theorem dX3_whatKeepsInStation_52 : decode cX3_whatKeepsInStation 52 = .ok (.iload_n 1, 1) := by decide +kernel
theorem dX3_whatKeepsInStation_53 : decode cX3_whatKeepsInStation 53 = .ok (.aload_n 0, 1) := by decide +kernel
theorem dX3_whatKeepsInStation_54 : decode cX3_whatKeepsInStation 54 = .ok (.getfield 44, 3) := by decide +kernel
theorem dX3_whatKeepsInStation_57 : decode cX3_whatKeepsInStation 57 = .ok (.if_icmp .gt 7, 3) := by decide +kernel
theorem dX3_whatKeepsInStation_60 : decode cX3_whatKeepsInStation 60 = .ok (.iload_n 2, 1) := by decide +kernel
theorem dX3_whatKeepsInStation_61 : decode cX3_whatKeepsInStation 61 = .ok (.ifCond .eq 6, 3) := by decide +kernel
theorem dX3_whatKeepsInStation_64 : decode cX3_whatKeepsInStation 64 = .ok (.bipush 119, 2) := by decide +kernel
theorem dX3_whatKeepsInStation_66 : decode cX3_whatKeepsInStation 66 = .ok (.ireturn, 1) := by decide +kernel
theorem dX3_whatKeepsInStation_67 : decode cX3_whatKeepsInStation 67 = .ok (.aload_n 0, 1) := by decide +kernel
theorem dX3_whatKeepsInStation_68 : decode cX3_whatKeepsInStation 68 = .ok (.aload_n 3, 1) := by decide +kernel
theorem dX3_whatKeepsInStation_69 : decode cX3_whatKeepsInStation 69 = .ok (.iload_n 1, 1) := by decide +kernel
theorem dX3_whatKeepsInStation_70 : decode cX3_whatKeepsInStation 70 = .ok (.invokevirtual 117, 3) := by decide +kernel
theorem dX3_whatKeepsInStation_73 : decode cX3_whatKeepsInStation 73 = .ok (.ireturn, 1) := by decide +kernel
theorem dX3_whatKeepsInStop_0 : decode cX3_whatKeepsInStop 0 = .ok (.aload_n 0, 1) := by decide +kernel
theorem dX3_whatKeepsInStop_1 : decode cX3_whatKeepsInStop 1 = .ok (.getfield 100, 3) := by decide +kernel
theorem dX3_whatKeepsInStop_4 : decode cX3_whatKeepsInStop 4 = .ok (.ifCond .eq 6, 3) := by decide +kernel
theorem dX3_whatKeepsInStop_7 : decode cX3_whatKeepsInStop 7 = .ok (.bipush 101, 2) := by decide +kernel
theorem dX3_whatKeepsInStop_9 : decode cX3_whatKeepsInStop 9 = .ok (.ireturn, 1) := by decide +kernel
theorem dX3_whatKeepsInStop_10 : decode cX3_whatKeepsInStop 10 = .ok (.aload_n 0, 1) := by decide +kernel
theorem dX3_whatKeepsInStop_11 : decode cX3_whatKeepsInStop 11 = .ok (.getfield 53, 3) := by decide +kernel
theorem dX3_whatKeepsInStop_14 : decode cX3_whatKeepsInStop 14 = .ok (.ifCond .eq 6, 3) := by decide +kernel
theorem dX3_whatKeepsInStop_17 : decode cX3_whatKeepsInStop 17 = .ok (.bipush 108, 2) := by decide +kernel
theorem dX3_whatKeepsInStop_19 : decode cX3_whatKeepsInStop 19 = .ok (.ireturn, 1) := by decide +kernel
theorem dX3_whatKeepsInStop_20 : decode cX3_whatKeepsInStop 20 = .ok (.aload_n 0, 1) := by decide +kernel
theorem dX3_whatKeepsInStop_21 : decode cX3_whatKeepsInStop 21 = .ok (.getfield 12, 3) := by decide +kernel
theorem dX3_whatKeepsInStop_24 : decode cX3_whatKeepsInStop 24 = .ok (.aload_n 1, 1) := by decide +kernel
theorem dX3_whatKeepsInStop_25 : decode cX3_whatKeepsInStop 25 = .ok (.getfield 56, 3) := by decide +kernel
theorem dX3_whatKeepsInStop_28 : decode cX3_whatKeepsInStop 28 = .ok (.iload_n 2, 1) := by decide +kernel
theorem dX3_whatKeepsInStop_29 : decode cX3_whatKeepsInStop 29 = .ok (.invokevirtual 121, 3) := by decide +kernel
theorem dX3_whatKeepsInStop_32 : decode cX3_whatKeepsInStop 32 = .ok (.ifCond .eq 6, 3) := by decide +kernel
theorem dX3_whatKeepsInStop_35 : decode cX3_whatKeepsInStop 35 = .ok (.bipush 102, 2) := by decide +kernel
theorem dX3_whatKeepsInStop_37 : decode cX3_whatKeepsInStop 37 = .ok (.ireturn, 1) := by decide +kernel
theorem dX3_whatKeepsInStop_38 : decode cX3_whatKeepsInStop 38 = .ok (.aload_n 0, 1) := by decide +kernel
theorem dX3_whatKeepsInStop_39 : decode cX3_whatKeepsInStop 39 = .ok (.aload_n 1, 1) := by decide +kernel
theorem dX3_whatKeepsInStop_40 : decode cX3_whatKeepsInStop 40 = .ok (.invokevirtual 125, 3) := by decide +kernel
theorem dX3_whatKeepsInStop_43 : decode cX3_whatKeepsInStop 43 = .ok (.ifCond .eq 8, 3) := by decide +kernel
theorem dX3_whatKeepsInStop_46 : decode cX3_whatKeepsInStop 46 = .ok (.bipush 46, 2) := by decide +kernel
theorem dX3_whatKeepsInStop_48 : decode cX3_whatKeepsInStop 48 = .ok (.goto 5, 3) := by decide +kernel
theorem dX3_whatKeepsInStop_51 : decode cX3_whatKeepsInStop 51 = .ok (.bipush 114, 2) := by decide +kernel
theorem dX3_whatKeepsInStop_53 : decode cX3_whatKeepsInStop 53 = .ok (.ireturn, 1) := by decide +kernel
theorem dX3_isPathFree_0 : decode cX3_isPathFree 0 = .ok (.aload_n 0, 1) := by decide +kernel
theorem dX3_isPathFree_1 : decode cX3_isPathFree 1 = .ok (.getfield 12, 3) := by decide +kernel
theorem dX3_isPathFree_4 : decode cX3_isPathFree 4 = .ok (.aload_n 1, 1) := by decide +kernel
theorem dX3_isPathFree_5 : decode cX3_isPathFree 5 = .ok (.getfield 56, 3) := by decide +kernel
theorem dX3_isPathFree_8 : decode cX3_isPathFree 8 = .ok (.invokevirtual 129, 3) := by decide +kernel
theorem dX3_isPathFree_11 : decode cX3_isPathFree 11 = .ok (.istore_n 2, 1) := by decide +kernel
theorem dX3_isPathFree_12 : decode cX3_isPathFree 12 = .ok (.aload_n 0, 1) := by decide +kernel
theorem dX3_isPathFree_13 : decode cX3_isPathFree 13 = .ok (.getfield 20, 3) := by decide +kernel
theorem dX3_isPathFree_16 : decode cX3_isPathFree 16 = .ok (.astore_n 3, 1) := by decide +kernel
theorem dX3_isPathFree_17 : decode cX3_isPathFree 17 = .ok (.aload_n 3, 1) := by decide +kernel
theorem dX3_isPathFree_18 : decode cX3_isPathFree 18 = .ok (.arraylength, 1) := by decide +kernel
theorem dX3_isPathFree_19 : decode cX3_isPathFree 19 = .ok (.istore 4, 2) := by decide +kernel
theorem dX3_isPathFree_21 : decode cX3_isPathFree 21 = .ok (.iconst 0, 1) := by decide +kernel
theorem dX3_isPathFree_22 : decode cX3_isPathFree 22 = .ok (.istore 5, 2) := by decide +kernel
theorem dX3_isPathFree_24 : decode cX3_isPathFree 24 = .ok (.iload 5, 2) := by decide +kernel
theorem dX3_isPathFree_26 : decode cX3_isPathFree 26 = .ok (.iload 4, 2) := by decide +kernel
theorem dX3_isPathFree_28 : decode cX3_isPathFree 28 = .ok (.if_icmp .ge 38, 3) := by decide +kernel
theorem dX3_isPathFree_31 : decode cX3_isPathFree 31 = .ok (.aload_n 3, 1) := by decide +kernel
theorem dX3_isPathFree_32 : decode cX3_isPathFree 32 = .ok (.iload 5, 2) := by decide +kernel
theorem dX3_isPathFree_34 : decode cX3_isPathFree 34 = .ok (.aaload, 1) := by decide +kernel
theorem dX3_isPathFree_35 : decode cX3_isPathFree 35 = .ok (.astore 6, 2) := by decide +kernel
theorem dX3_isPathFree_37 : decode cX3_isPathFree 37 = .ok (.aload 6, 2) := by decide +kernel
theorem dX3_isPathFree_39 : decode cX3_isPathFree 39 = .ok (.ifnull 21, 3) := by decide +kernel
theorem dX3_isPathFree_42 : decode cX3_isPathFree 42 = .ok (.aload 6, 2) := by decide +kernel
theorem dX3_isPathFree_44 : decode cX3_isPathFree 44 = .ok (.aload_n 1, 1) := by decide +kernel
theorem dX3_isPathFree_45 : decode cX3_isPathFree 45 = .ok (.if_acmp .eq 15, 3) := by decide +kernel
theorem dX3_isPathFree_48 : decode cX3_isPathFree 48 = .ok (.aload 6, 2) := by decide +kernel
theorem dX3_isPathFree_50 : decode cX3_isPathFree 50 = .ok (.getfield 132, 3) := by decide +kernel
theorem dX3_isPathFree_53 : decode cX3_isPathFree 53 = .ok (.iload_n 2, 1) := by decide +kernel
theorem dX3_isPathFree_54 : decode cX3_isPathFree 54 = .ok (.iand, 1) := by decide +kernel
theorem dX3_isPathFree_55 : decode cX3_isPathFree 55 = .ok (.ifCond .eq 5, 3) := by decide +kernel
theorem dX3_isPathFree_58 : decode cX3_isPathFree 58 = .ok (.iconst 0, 1) := by decide +kernel
theorem dX3_isPathFree_59 : decode cX3_isPathFree 59 = .ok (.ireturn, 1) := by decide +kernel
theorem dX3_isPathFree_60 : decode cX3_isPathFree 60 = .ok (.iinc 5 1, 3) := by decide +kernel
theorem dX3_isPathFree_63 : decode cX3_isPathFree 63 = .ok (.goto (-39), 3) := by decide +kernel
theorem dX3_isPathFree_66 : decode cX3_isPathFree 66 = .ok (.iload_n 2, 1) := by decide +kernel
theorem dX3_isPathFree_67 : decode cX3_isPathFree 67 = .ok (.iconst 1, 1) := by decide +kernel
theorem dX3_isPathFree_68 : decode cX3_isPathFree 68 = .ok (.aload_n 1, 1) := by decide +kernel
theorem dX3_isPathFree_69 : decode cX3_isPathFree 69 = .ok (.getfield 56, 3) := by decide +kernel
theorem dX3_isPathFree_72 : decode cX3_isPathFree 72 = .ok (.ishl, 1) := by decide +kernel
theorem dX3_isPathFree_73 : decode cX3_isPathFree 73 = .ok (.iconst (-1), 1) := by decide +kernel
theorem dX3_isPathFree_74 : decode cX3_isPathFree 74 = .ok (.ixor, 1) := by decide +kernel
theorem dX3_isPathFree_75 : decode cX3_isPathFree 75 = .ok (.iand, 1) := by decide +kernel
theorem dX3_isPathFree_76 : decode cX3_isPathFree 76 = .ok (.istore_n 3, 1) := by decide +kernel
theorem dX3_isPathFree_77 : decode cX3_isPathFree 77 = .ok (.aload_n 0, 1) := by decide +kernel
theorem dX3_isPathFree_78 : decode cX3_isPathFree 78 = .ok (.iconst 0, 1) := by decide +kernel
theorem dX3_isPathFree_79 : decode cX3_isPathFree 79 = .ok (.invokevirtual 92, 3) := by decide +kernel
theorem dX3_isPathFree_82 : decode cX3_isPathFree 82 = .ok (.aload_n 0, 1) := by decide +kernel
theorem dX3_isPathFree_83 : decode cX3_isPathFree 83 = .ok (.iconst 1, 1) := by decide +kernel
theorem dX3_isPathFree_84 : decode cX3_isPathFree 84 = .ok (.invokevirtual 92, 3) := by decide +kernel
theorem dX3_isPathFree_87 : decode cX3_isPathFree 87 = .ok (.ior, 1) := by decide +kernel
theorem dX3_isPathFree_88 : decode cX3_isPathFree 88 = .ok (.iload_n 3, 1) := by decide +kernel
theorem dX3_isPathFree_89 : decode cX3_isPathFree 89 = .ok (.iand, 1) := by decide +kernel
theorem dX3_isPathFree_90 : decode cX3_isPathFree 90 = .ok (.ifCond .ne 7, 3) := by decide +kernel
theorem dX3_isPathFree_93 : decode cX3_isPathFree 93 = .ok (.iconst 1, 1) := by decide +kernel
theorem dX3_isPathFree_94 : decode cX3_isPathFree 94 = .ok (.goto 4, 3) := by decide +kernel
theorem dX3_isPathFree_97 : decode cX3_isPathFree 97 = .ok (.iconst 0, 1) := by decide +kernel
theorem dX3_isPathFree_98 : decode cX3_isPathFree 98 = .ok (.ireturn, 1) := by decide +kernel
theorem dX3_sendOff_0 : decode cX3_sendOff 0 = .ok (.aload_n 1, 1) := by decide +kernel
theorem dX3_sendOff_1 : decode cX3_sendOff 1 = .ok (.aload_n 0, 1) := by decide +kernel
theorem dX3_sendOff_2 : decode cX3_sendOff 2 = .ok (.getfield 12, 3) := by decide +kernel
theorem dX3_sendOff_5 : decode cX3_sendOff 5 = .ok (.aload_n 1, 1) := by decide +kernel
theorem dX3_sendOff_6 : decode cX3_sendOff 6 = .ok (.getfield 56, 3) := by decide +kernel
theorem dX3_sendOff_9 : decode cX3_sendOff 9 = .ok (.invokevirtual 129, 3) := by decide +kernel
theorem dX3_sendOff_12 : decode cX3_sendOff 12 = .ok (.invokevirtual 135, 3) := by decide +kernel
theorem dX3_sendOff_15 : decode cX3_sendOff 15 = .ok (.aload_n 0, 1) := by decide +kernel
theorem dX3_sendOff_16 : decode cX3_sendOff 16 = .ok (.dup, 1) := by decide +kernel
theorem dX3_sendOff_17 : decode cX3_sendOff 17 = .ok (.getfield 139, 3) := by decide +kernel
theorem dX3_sendOff_20 : decode cX3_sendOff 20 = .ok (.iconst 1, 1) := by decide +kernel
theorem dX3_sendOff_21 : decode cX3_sendOff 21 = .ok (.iadd, 1) := by decide +kernel
theorem dX3_sendOff_22 : decode cX3_sendOff 22 = .ok (.putfield 139, 3) := by decide +kernel
theorem dX3_sendOff_25 : decode cX3_sendOff 25 = .ok (.aload_n 0, 1) := by decide +kernel
theorem dX3_sendOff_26 : decode cX3_sendOff 26 = .ok (.dup, 1) := by decide +kernel
theorem dX3_sendOff_27 : decode cX3_sendOff 27 = .ok (.getfield 114, 3) := by decide +kernel
theorem dX3_sendOff_30 : decode cX3_sendOff 30 = .ok (.iconst 1, 1) := by decide +kernel
theorem dX3_sendOff_31 : decode cX3_sendOff 31 = .ok (.iadd, 1) := by decide +kernel
theorem dX3_sendOff_32 : decode cX3_sendOff 32 = .ok (.putfield 114, 3) := by decide +kernel
theorem dX3_sendOff_35 : decode cX3_sendOff 35 = .ok (.return_, 1) := by decide +kernel
theorem dX3_moveTrains_0 : decode cX3_moveTrains 0 = .ok (.aload_n 0, 1) := by decide +kernel
theorem dX3_moveTrains_1 : decode cX3_moveTrains 1 = .ok (.getfield 12, 3) := by decide +kernel
theorem dX3_moveTrains_4 : decode cX3_moveTrains 4 = .ok (.getfield 79, 3) := by decide +kernel
theorem dX3_moveTrains_7 : decode cX3_moveTrains 7 = .ok (.iconst 1, 1) := by decide +kernel
theorem dX3_moveTrains_8 : decode cX3_moveTrains 8 = .ok (.isub, 1) := by decide +kernel
theorem dX3_moveTrains_9 : decode cX3_moveTrains 9 = .ok (.istore_n 2, 1) := by decide +kernel
theorem dX3_moveTrains_10 : decode cX3_moveTrains 10 = .ok (.iload_n 2, 1) := by decide +kernel
theorem dX3_moveTrains_11 : decode cX3_moveTrains 11 = .ok (.ifCond .lt 80, 3) := by decide +kernel
theorem dX3_moveTrains_14 : decode cX3_moveTrains 14 = .ok (.aload_n 0, 1) := by decide +kernel
theorem dX3_moveTrains_15 : decode cX3_moveTrains 15 = .ok (.iload_n 2, 1) := by decide +kernel
theorem dX3_moveTrains_16 : decode cX3_moveTrains 16 = .ok (.invokevirtual 59, 3) := by decide +kernel
theorem dX3_moveTrains_19 : decode cX3_moveTrains 19 = .ok (.astore_n 3, 1) := by decide +kernel
theorem dX3_moveTrains_20 : decode cX3_moveTrains 20 = .ok (.aload_n 3, 1) := by decide +kernel
theorem dX3_moveTrains_21 : decode cX3_moveTrains 21 = .ok (.ifnull 24, 3) := by decide +kernel
theorem dX3_moveTrains_24 : decode cX3_moveTrains 24 = .ok (.aload_n 3, 1) := by decide +kernel
theorem dX3_moveTrains_25 : decode cX3_moveTrains 25 = .ok (.getfield 63, 3) := by decide +kernel
theorem dX3_moveTrains_28 : decode cX3_moveTrains 28 = .ok (.bipush 109, 2) := by decide +kernel
theorem dX3_moveTrains_30 : decode cX3_moveTrains 30 = .ok (.if_icmp .ne 15, 3) := by decide +kernel
theorem dX3_moveTrains_33 : decode cX3_moveTrains 33 = .ok (.aload_n 3, 1) := by decide +kernel
theorem dX3_moveTrains_34 : decode cX3_moveTrains 34 = .ok (.aload_n 0, 1) := by decide +kernel
theorem dX3_moveTrains_35 : decode cX3_moveTrains 35 = .ok (.getfield 12, 3) := by decide +kernel
theorem dX3_moveTrains_38 : decode cX3_moveTrains 38 = .ok (.iload_n 1, 1) := by decide +kernel
theorem dX3_moveTrains_39 : decode cX3_moveTrains 39 = .ok (.invokevirtual 142, 3) := by decide +kernel
theorem dX3_moveTrains_42 : decode cX3_moveTrains 42 = .ok (.goto 43, 3) := by decide +kernel
theorem dX3_moveTrains_45 : decode cX3_moveTrains 45 = .ok (.aload_n 3, 1) := by decide +kernel
theorem dX3_moveTrains_46 : decode cX3_moveTrains 46 = .ok (.ifnull 39, 3) := by decide +kernel
theorem dX3_moveTrains_49 : decode cX3_moveTrains 49 = .ok (.iload_n 2, 1) := by decide +kernel
theorem dX3_moveTrains_50 : decode cX3_moveTrains 50 = .ok (.ifCond .eq 35, 3) := by decide +kernel
theorem dX3_moveTrains_53 : decode cX3_moveTrains 53 = .ok (.aload_n 3, 1) := by decide +kernel
theorem dX3_moveTrains_54 : decode cX3_moveTrains 54 = .ok (.getfield 63, 3) := by decide +kernel
theorem dX3_moveTrains_57 : decode cX3_moveTrains 57 = .ok (.bipush 115, 2) := by decide +kernel
theorem dX3_moveTrains_59 : decode cX3_moveTrains 59 = .ok (.if_icmp .ne 26, 3) := by decide +kernel
theorem dX3_moveTrains_62 : decode cX3_moveTrains 62 = .ok (.aload_n 0, 1) := by decide +kernel
theorem dX3_moveTrains_63 : decode cX3_moveTrains 63 = .ok (.aload_n 3, 1) := by decide +kernel
theorem dX3_moveTrains_64 : decode cX3_moveTrains 64 = .ok (.iload_n 1, 1) := by decide +kernel
theorem dX3_moveTrains_65 : decode cX3_moveTrains 65 = .ok (.invokevirtual 117, 3) := by decide +kernel
theorem dX3_moveTrains_68 : decode cX3_moveTrains 68 = .ok (.bipush 46, 2) := by decide +kernel
theorem dX3_moveTrains_70 : decode cX3_moveTrains 70 = .ok (.if_icmp .ne 15, 3) := by decide +kernel
theorem dX3_moveTrains_73 : decode cX3_moveTrains 73 = .ok (.aload_n 3, 1) := by decide +kernel
theorem dX3_moveTrains_74 : decode cX3_moveTrains 74 = .ok (.aload_n 0, 1) := by decide +kernel
theorem dX3_moveTrains_75 : decode cX3_moveTrains 75 = .ok (.getfield 12, 3) := by decide +kernel
theorem dX3_moveTrains_78 : decode cX3_moveTrains 78 = .ok (.iload_n 2, 1) := by decide +kernel
theorem dX3_moveTrains_79 : decode cX3_moveTrains 79 = .ok (.invokevirtual 129, 3) := by decide +kernel
theorem dX3_moveTrains_82 : decode cX3_moveTrains 82 = .ok (.invokevirtual 135, 3) := by decide +kernel
theorem dX3_moveTrains_85 : decode cX3_moveTrains 85 = .ok (.iinc 2 (-1), 3) := by decide +kernel
theorem dX3_moveTrains_88 : decode cX3_moveTrains 88 = .ok (.goto (-78), 3) := by decide +kernel
theorem dX3_moveTrains_91 : decode cX3_moveTrains 91 = .ok (.return_, 1) := by decide +kernel
theorem dX3_board_0 : decode cX3_board 0 = .ok (.aload_n 1, 1) := by decide +kernel
theorem dX3_board_1 : decode cX3_board 1 = .ok (.getfield 146, 3) := by decide +kernel
theorem dX3_board_4 : decode cX3_board 4 = .ok (.istore_n 2, 1) := by decide +kernel
theorem dX3_board_5 : decode cX3_board 5 = .ok (.aload_n 0, 1) := by decide +kernel
theorem dX3_board_6 : decode cX3_board 6 = .ok (.getfield 34, 3) := by decide +kernel
theorem dX3_board_9 : decode cX3_board 9 = .ok (.aload_n 1, 1) := by decide +kernel
theorem dX3_board_10 : decode cX3_board 10 = .ok (.invokestatic 149, 3) := by decide +kernel
theorem dX3_board_13 : decode cX3_board 13 = .ok (.aload_n 0, 1) := by decide +kernel
theorem dX3_board_14 : decode cX3_board 14 = .ok (.aload_n 1, 1) := by decide +kernel
theorem dX3_board_15 : decode cX3_board 15 = .ok (.invokevirtual 153, 3) := by decide +kernel
theorem dX3_board_18 : decode cX3_board 18 = .ok (.aload_n 0, 1) := by decide +kernel
theorem dX3_board_19 : decode cX3_board 19 = .ok (.getfield 31, 3) := by decide +kernel
theorem dX3_board_22 : decode cX3_board 22 = .ok (.aload_n 1, 1) := by decide +kernel
theorem dX3_board_23 : decode cX3_board 23 = .ok (.invokestatic 149, 3) := by decide +kernel
theorem dX3_board_26 : decode cX3_board 26 = .ok (.aload_n 1, 1) := by decide +kernel
theorem dX3_board_27 : decode cX3_board 27 = .ok (.getfield 146, 3) := by decide +kernel
theorem dX3_board_30 : decode cX3_board 30 = .ok (.iload_n 2, 1) := by decide +kernel
theorem dX3_board_31 : decode cX3_board 31 = .ok (.isub, 1) := by decide +kernel
theorem dX3_board_32 : decode cX3_board 32 = .ok (.ireturn, 1) := by decide +kernel
theorem dX3_boardOneByOne_0 : decode cX3_boardOneByOne 0 = .ok (.iconst 0, 1) := by decide +kernel
theorem dX3_boardOneByOne_1 : decode cX3_boardOneByOne 1 = .ok (.istore_n 2, 1) := by decide +kernel
theorem dX3_boardOneByOne_2 : decode cX3_boardOneByOne 2 = .ok (.iload_n 2, 1) := by decide +kernel
theorem dX3_boardOneByOne_3 : decode cX3_boardOneByOne 3 = .ok (.bipush 8, 2) := by decide +kernel
theorem dX3_boardOneByOne_5 : decode cX3_boardOneByOne 5 = .ok (.if_icmp .ge 36, 3) := by decide +kernel
theorem dX3_boardOneByOne_8 : decode cX3_boardOneByOne 8 = .ok (.aload_n 1, 1) := by decide +kernel
theorem dX3_boardOneByOne_9 : decode cX3_boardOneByOne 9 = .ok (.invokevirtual 157, 3) := by decide +kernel
theorem dX3_boardOneByOne_12 : decode cX3_boardOneByOne 12 = .ok (.ifCond .le 29, 3) := by decide +kernel
theorem dX3_boardOneByOne_15 : decode cX3_boardOneByOne 15 = .ok (.aload_n 0, 1) := by decide +kernel
theorem dX3_boardOneByOne_16 : decode cX3_boardOneByOne 16 = .ok (.invokevirtual 160, 3) := by decide +kernel
theorem dX3_boardOneByOne_19 : decode cX3_boardOneByOne 19 = .ok (.astore_n 3, 1) := by decide +kernel
theorem dX3_boardOneByOne_20 : decode cX3_boardOneByOne 20 = .ok (.aload_n 3, 1) := by decide +kernel
theorem dX3_boardOneByOne_21 : decode cX3_boardOneByOne 21 = .ok (.ifnonnull 4, 3) := by decide +kernel
theorem dX3_boardOneByOne_24 : decode cX3_boardOneByOne 24 = .ok (.return_, 1) := by decide +kernel
theorem dX3_boardOneByOne_25 : decode cX3_boardOneByOne 25 = .ok (.aload_n 0, 1) := by decide +kernel
theorem dX3_boardOneByOne_26 : decode cX3_boardOneByOne 26 = .ok (.aload_n 3, 1) := by decide +kernel
theorem dX3_boardOneByOne_27 : decode cX3_boardOneByOne 27 = .ok (.invokevirtual 164, 3) := by decide +kernel
theorem dX3_boardOneByOne_30 : decode cX3_boardOneByOne 30 = .ok (.aload_n 1, 1) := by decide +kernel
theorem dX3_boardOneByOne_31 : decode cX3_boardOneByOne 31 = .ok (.aload_n 3, 1) := by decide +kernel
theorem dX3_boardOneByOne_32 : decode cX3_boardOneByOne 32 = .ok (.invokevirtual 168, 3) := by decide +kernel
theorem dX3_boardOneByOne_35 : decode cX3_boardOneByOne 35 = .ok (.iinc 2 1, 3) := by decide +kernel
theorem dX3_boardOneByOne_38 : decode cX3_boardOneByOne 38 = .ok (.goto (-36), 3) := by decide +kernel
theorem dX3_boardOneByOne_41 : decode cX3_boardOneByOne 41 = .ok (.return_, 1) := by decide +kernel
theorem dX3_boardParties_0 : decode cX3_boardParties 0 = .ok (.iconst 0, 1) := by decide +kernel
theorem dX3_boardParties_1 : decode cX3_boardParties 1 = .ok (.istore_n 2, 1) := by decide +kernel
theorem dX3_boardParties_2 : decode cX3_boardParties 2 = .ok (.iload_n 2, 1) := by decide +kernel
theorem dX3_boardParties_3 : decode cX3_boardParties 3 = .ok (.bipush 60, 2) := by decide +kernel
theorem dX3_boardParties_5 : decode cX3_boardParties 5 = .ok (.if_icmp .ge 74, 3) := by decide +kernel
theorem dX3_boardParties_8 : decode cX3_boardParties 8 = .ok (.aload_n 0, 1) := by decide +kernel
theorem dX3_boardParties_9 : decode cX3_boardParties 9 = .ok (.getfield 27, 3) := by decide +kernel
theorem dX3_boardParties_12 : decode cX3_boardParties 12 = .ok (.invokevirtual 160, 3) := by decide +kernel
theorem dX3_boardParties_15 : decode cX3_boardParties 15 = .ok (.astore_n 3, 1) := by decide +kernel
theorem dX3_boardParties_16 : decode cX3_boardParties 16 = .ok (.aload_n 3, 1) := by decide +kernel
theorem dX3_boardParties_17 : decode cX3_boardParties 17 = .ok (.ifnonnull 4, 3) := by decide +kernel
theorem dX3_boardParties_20 : decode cX3_boardParties 20 = .ok (.return_, 1) := by decide +kernel
theorem dX3_boardParties_21 : decode cX3_boardParties 21 = .ok (.aload_n 0, 1) := by decide +kernel
theorem dX3_boardParties_22 : decode cX3_boardParties 22 = .ok (.getfield 27, 3) := by decide +kernel
theorem dX3_boardParties_25 : decode cX3_boardParties 25 = .ok (.aload_n 3, 1) := by decide +kernel
theorem dX3_boardParties_26 : decode cX3_boardParties 26 = .ok (.invokevirtual 171, 3) := by decide +kernel
theorem dX3_boardParties_29 : decode cX3_boardParties 29 = .ok (.istore 4, 2) := by decide +kernel
theorem dX3_boardParties_31 : decode cX3_boardParties 31 = .ok (.iload 4, 2) := by decide +kernel
theorem dX3_boardParties_33 : decode cX3_boardParties 33 = .ok (.aload_n 1, 1) := by decide +kernel
theorem dX3_boardParties_34 : decode cX3_boardParties 34 = .ok (.invokevirtual 157, 3) := by decide +kernel
theorem dX3_boardParties_37 : decode cX3_boardParties 37 = .ok (.if_icmp .gt 7, 3) := by decide +kernel
theorem dX3_boardParties_40 : decode cX3_boardParties 40 = .ok (.iconst 1, 1) := by decide +kernel
theorem dX3_boardParties_41 : decode cX3_boardParties 41 = .ok (.goto 4, 3) := by decide +kernel
theorem dX3_boardParties_44 : decode cX3_boardParties 44 = .ok (.iconst 0, 1) := by decide +kernel
theorem dX3_boardParties_45 : decode cX3_boardParties 45 = .ok (.istore 5, 2) := by decide +kernel
theorem dX3_boardParties_47 : decode cX3_boardParties 47 = .ok (.iload 5, 2) := by decide +kernel
theorem dX3_boardParties_49 : decode cX3_boardParties 49 = .ok (.ifCond .ne 12, 3) := by decide +kernel
theorem dX3_boardParties_52 : decode cX3_boardParties 52 = .ok (.aload_n 1, 1) := by decide +kernel
theorem dX3_boardParties_53 : decode cX3_boardParties 53 = .ok (.iload 4, 2) := by decide +kernel
theorem dX3_boardParties_55 : decode cX3_boardParties 55 = .ok (.invokevirtual 175, 3) := by decide +kernel
theorem dX3_boardParties_58 : decode cX3_boardParties 58 = .ok (.ifCond .eq 9, 3) := by decide +kernel
theorem dX3_boardParties_61 : decode cX3_boardParties 61 = .ok (.aload_n 0, 1) := by decide +kernel
theorem dX3_boardParties_62 : decode cX3_boardParties 62 = .ok (.aload_n 3, 1) := by decide +kernel
theorem dX3_boardParties_63 : decode cX3_boardParties 63 = .ok (.aload_n 1, 1) := by decide +kernel
theorem dX3_boardParties_64 : decode cX3_boardParties 64 = .ok (.invokevirtual 178, 3) := by decide +kernel
theorem dX3_boardParties_67 : decode cX3_boardParties 67 = .ok (.iload 5, 2) := by decide +kernel
theorem dX3_boardParties_69 : decode cX3_boardParties 69 = .ok (.ifCond .ne 4, 3) := by decide +kernel
theorem dX3_boardParties_72 : decode cX3_boardParties 72 = .ok (.return_, 1) := by decide +kernel
theorem dX3_boardParties_73 : decode cX3_boardParties 73 = .ok (.iinc 2 1, 3) := by decide +kernel
theorem dX3_boardParties_76 : decode cX3_boardParties 76 = .ok (.goto (-74), 3) := by decide +kernel
theorem dX3_boardParties_79 : decode cX3_boardParties 79 = .ok (.return_, 1) := by decide +kernel
theorem dX3_boardParty_0 : decode cX3_boardParty 0 = .ok (.iconst 0, 1) := by decide +kernel
theorem dX3_boardParty_1 : decode cX3_boardParty 1 = .ok (.istore_n 3, 1) := by decide +kernel
theorem dX3_boardParty_2 : decode cX3_boardParty 2 = .ok (.iload_n 3, 1) := by decide +kernel
theorem dX3_boardParty_3 : decode cX3_boardParty 3 = .ok (.bipush 8, 2) := by decide +kernel
theorem dX3_boardParty_5 : decode cX3_boardParty 5 = .ok (.if_icmp .ge 38, 3) := by decide +kernel
theorem dX3_boardParty_8 : decode cX3_boardParty 8 = .ok (.aload_n 2, 1) := by decide +kernel
theorem dX3_boardParty_9 : decode cX3_boardParty 9 = .ok (.invokevirtual 157, 3) := by decide +kernel
theorem dX3_boardParty_12 : decode cX3_boardParty 12 = .ok (.ifCond .le 31, 3) := by decide +kernel
theorem dX3_boardParty_15 : decode cX3_boardParty 15 = .ok (.aload_n 0, 1) := by decide +kernel
theorem dX3_boardParty_16 : decode cX3_boardParty 16 = .ok (.getfield 27, 3) := by decide +kernel
theorem dX3_boardParty_19 : decode cX3_boardParty 19 = .ok (.aload_n 1, 1) := by decide +kernel
theorem dX3_boardParty_20 : decode cX3_boardParty 20 = .ok (.invokevirtual 182, 3) := by decide +kernel
theorem dX3_boardParty_23 : decode cX3_boardParty 23 = .ok (.astore 4, 2) := by decide +kernel
theorem dX3_boardParty_25 : decode cX3_boardParty 25 = .ok (.aload 4, 2) := by decide +kernel
theorem dX3_boardParty_27 : decode cX3_boardParty 27 = .ok (.ifnonnull 4, 3) := by decide +kernel
theorem dX3_boardParty_30 : decode cX3_boardParty 30 = .ok (.return_, 1) := by decide +kernel
theorem dX3_boardParty_31 : decode cX3_boardParty 31 = .ok (.aload_n 2, 1) := by decide +kernel
theorem dX3_boardParty_32 : decode cX3_boardParty 32 = .ok (.aload 4, 2) := by decide +kernel
theorem dX3_boardParty_34 : decode cX3_boardParty 34 = .ok (.invokevirtual 168, 3) := by decide +kernel
theorem dX3_boardParty_37 : decode cX3_boardParty 37 = .ok (.iinc 3 1, 3) := by decide +kernel
theorem dX3_boardParty_40 : decode cX3_boardParty 40 = .ok (.goto (-38), 3) := by decide +kernel
theorem dX3_boardParty_43 : decode cX3_boardParty 43 = .ok (.return_, 1) := by decide +kernel
theorem dX3_areHoldsSound_0 : decode cX3_areHoldsSound 0 = .ok (.iconst 0, 1) := by decide +kernel
theorem dX3_areHoldsSound_1 : decode cX3_areHoldsSound 1 = .ok (.istore_n 1, 1) := by decide +kernel
theorem dX3_areHoldsSound_2 : decode cX3_areHoldsSound 2 = .ok (.aload_n 0, 1) := by decide +kernel
theorem dX3_areHoldsSound_3 : decode cX3_areHoldsSound 3 = .ok (.getfield 20, 3) := by decide +kernel
theorem dX3_areHoldsSound_6 : decode cX3_areHoldsSound 6 = .ok (.astore_n 2, 1) := by decide +kernel
theorem dX3_areHoldsSound_7 : decode cX3_areHoldsSound 7 = .ok (.aload_n 2, 1) := by decide +kernel
theorem dX3_areHoldsSound_8 : decode cX3_areHoldsSound 8 = .ok (.arraylength, 1) := by decide +kernel
theorem dX3_areHoldsSound_9 : decode cX3_areHoldsSound 9 = .ok (.istore_n 3, 1) := by decide +kernel
theorem dX3_areHoldsSound_10 : decode cX3_areHoldsSound 10 = .ok (.iconst 0, 1) := by decide +kernel
theorem dX3_areHoldsSound_11 : decode cX3_areHoldsSound 11 = .ok (.istore 4, 2) := by decide +kernel
theorem dX3_areHoldsSound_13 : decode cX3_areHoldsSound 13 = .ok (.iload 4, 2) := by decide +kernel
theorem dX3_areHoldsSound_15 : decode cX3_areHoldsSound 15 = .ok (.iload_n 3, 1) := by decide +kernel
theorem dX3_areHoldsSound_16 : decode cX3_areHoldsSound 16 = .ok (.if_icmp .ge 53, 3) := by decide +kernel
theorem dX3_areHoldsSound_19 : decode cX3_areHoldsSound 19 = .ok (.aload_n 2, 1) := by decide +kernel
theorem dX3_areHoldsSound_20 : decode cX3_areHoldsSound 20 = .ok (.iload 4, 2) := by decide +kernel
theorem dX3_areHoldsSound_22 : decode cX3_areHoldsSound 22 = .ok (.aaload, 1) := by decide +kernel
theorem dX3_areHoldsSound_23 : decode cX3_areHoldsSound 23 = .ok (.astore 5, 2) := by decide +kernel
theorem dX3_areHoldsSound_25 : decode cX3_areHoldsSound 25 = .ok (.aload 5, 2) := by decide +kernel
theorem dX3_areHoldsSound_27 : decode cX3_areHoldsSound 27 = .ok (.ifnull 36, 3) := by decide +kernel
theorem dX3_areHoldsSound_30 : decode cX3_areHoldsSound 30 = .ok (.aload 5, 2) := by decide +kernel
theorem dX3_areHoldsSound_32 : decode cX3_areHoldsSound 32 = .ok (.aload 5, 2) := by decide +kernel
theorem dX3_areHoldsSound_34 : decode cX3_areHoldsSound 34 = .ok (.getfield 56, 3) := by decide +kernel
theorem dX3_areHoldsSound_37 : decode cX3_areHoldsSound 37 = .ok (.invokevirtual 71, 3) := by decide +kernel
theorem dX3_areHoldsSound_40 : decode cX3_areHoldsSound 40 = .ok (.ifCond .eq 13, 3) := by decide +kernel
theorem dX3_areHoldsSound_43 : decode cX3_areHoldsSound 43 = .ok (.aload 5, 2) := by decide +kernel
theorem dX3_areHoldsSound_45 : decode cX3_areHoldsSound 45 = .ok (.getfield 132, 3) := by decide +kernel
theorem dX3_areHoldsSound_48 : decode cX3_areHoldsSound 48 = .ok (.iload_n 1, 1) := by decide +kernel
theorem dX3_areHoldsSound_49 : decode cX3_areHoldsSound 49 = .ok (.iand, 1) := by decide +kernel
theorem dX3_areHoldsSound_50 : decode cX3_areHoldsSound 50 = .ok (.ifCond .eq 5, 3) := by decide +kernel
theorem dX3_areHoldsSound_53 : decode cX3_areHoldsSound 53 = .ok (.iconst 0, 1) := by decide +kernel
theorem dX3_areHoldsSound_54 : decode cX3_areHoldsSound 54 = .ok (.ireturn, 1) := by decide +kernel
theorem dX3_areHoldsSound_55 : decode cX3_areHoldsSound 55 = .ok (.iload_n 1, 1) := by decide +kernel
theorem dX3_areHoldsSound_56 : decode cX3_areHoldsSound 56 = .ok (.aload 5, 2) := by decide +kernel
theorem dX3_areHoldsSound_58 : decode cX3_areHoldsSound 58 = .ok (.getfield 132, 3) := by decide +kernel
theorem dX3_areHoldsSound_61 : decode cX3_areHoldsSound 61 = .ok (.ior, 1) := by decide +kernel
theorem dX3_areHoldsSound_62 : decode cX3_areHoldsSound 62 = .ok (.istore_n 1, 1) := by decide +kernel
theorem dX3_areHoldsSound_63 : decode cX3_areHoldsSound 63 = .ok (.iinc 4 1, 3) := by decide +kernel
theorem dX3_areHoldsSound_66 : decode cX3_areHoldsSound 66 = .ok (.goto (-53), 3) := by decide +kernel
theorem dX3_areHoldsSound_69 : decode cX3_areHoldsSound 69 = .ok (.iconst 1, 1) := by decide +kernel
theorem dX3_areHoldsSound_70 : decode cX3_areHoldsSound 70 = .ok (.ireturn, 1) := by decide +kernel
theorem dX3_countInLines_0 : decode cX3_countInLines 0 = .ok (.aload_n 0, 1) := by decide +kernel
theorem dX3_countInLines_1 : decode cX3_countInLines 1 = .ok (.getfield 27, 3) := by decide +kernel
theorem dX3_countInLines_4 : decode cX3_countInLines 4 = .ok (.aload_n 1, 1) := by decide +kernel
theorem dX3_countInLines_5 : decode cX3_countInLines 5 = .ok (.invokevirtual 186, 3) := by decide +kernel
theorem dX3_countInLines_8 : decode cX3_countInLines 8 = .ok (.aload_n 0, 1) := by decide +kernel
theorem dX3_countInLines_9 : decode cX3_countInLines 9 = .ok (.getfield 31, 3) := by decide +kernel
theorem dX3_countInLines_12 : decode cX3_countInLines 12 = .ok (.aload_n 1, 1) := by decide +kernel
theorem dX3_countInLines_13 : decode cX3_countInLines 13 = .ok (.invokevirtual 186, 3) := by decide +kernel
theorem dX3_countInLines_16 : decode cX3_countInLines 16 = .ok (.iadd, 1) := by decide +kernel
theorem dX3_countInLines_17 : decode cX3_countInLines 17 = .ok (.aload_n 0, 1) := by decide +kernel
theorem dX3_countInLines_18 : decode cX3_countInLines 18 = .ok (.getfield 34, 3) := by decide +kernel
theorem dX3_countInLines_21 : decode cX3_countInLines 21 = .ok (.aload_n 1, 1) := by decide +kernel
theorem dX3_countInLines_22 : decode cX3_countInLines 22 = .ok (.invokevirtual 186, 3) := by decide +kernel
theorem dX3_countInLines_25 : decode cX3_countInLines 25 = .ok (.iadd, 1) := by decide +kernel
theorem dX3_countInLines_26 : decode cX3_countInLines 26 = .ok (.ireturn, 1) := by decide +kernel
theorem dX3_countInTrains_0 : decode cX3_countInTrains 0 = .ok (.iconst 0, 1) := by decide +kernel
theorem dX3_countInTrains_1 : decode cX3_countInTrains 1 = .ok (.istore_n 2, 1) := by decide +kernel
theorem dX3_countInTrains_2 : decode cX3_countInTrains 2 = .ok (.aload_n 0, 1) := by decide +kernel
theorem dX3_countInTrains_3 : decode cX3_countInTrains 3 = .ok (.getfield 20, 3) := by decide +kernel
theorem dX3_countInTrains_6 : decode cX3_countInTrains 6 = .ok (.astore_n 3, 1) := by decide +kernel
theorem dX3_countInTrains_7 : decode cX3_countInTrains 7 = .ok (.aload_n 3, 1) := by decide +kernel
theorem dX3_countInTrains_8 : decode cX3_countInTrains 8 = .ok (.arraylength, 1) := by decide +kernel
theorem dX3_countInTrains_9 : decode cX3_countInTrains 9 = .ok (.istore 4, 2) := by decide +kernel
theorem dX3_countInTrains_11 : decode cX3_countInTrains 11 = .ok (.iconst 0, 1) := by decide +kernel
theorem dX3_countInTrains_12 : decode cX3_countInTrains 12 = .ok (.istore 5, 2) := by decide +kernel
theorem dX3_countInTrains_14 : decode cX3_countInTrains 14 = .ok (.iload 5, 2) := by decide +kernel
theorem dX3_countInTrains_16 : decode cX3_countInTrains 16 = .ok (.iload 4, 2) := by decide +kernel
theorem dX3_countInTrains_18 : decode cX3_countInTrains 18 = .ok (.if_icmp .ge 29, 3) := by decide +kernel
theorem dX3_countInTrains_21 : decode cX3_countInTrains 21 = .ok (.aload_n 3, 1) := by decide +kernel
theorem dX3_countInTrains_22 : decode cX3_countInTrains 22 = .ok (.iload 5, 2) := by decide +kernel
theorem dX3_countInTrains_24 : decode cX3_countInTrains 24 = .ok (.aaload, 1) := by decide +kernel
theorem dX3_countInTrains_25 : decode cX3_countInTrains 25 = .ok (.astore 6, 2) := by decide +kernel
theorem dX3_countInTrains_27 : decode cX3_countInTrains 27 = .ok (.aload 6, 2) := by decide +kernel
theorem dX3_countInTrains_29 : decode cX3_countInTrains 29 = .ok (.ifnull 12, 3) := by decide +kernel
theorem dX3_countInTrains_32 : decode cX3_countInTrains 32 = .ok (.iload_n 2, 1) := by decide +kernel
theorem dX3_countInTrains_33 : decode cX3_countInTrains 33 = .ok (.aload 6, 2) := by decide +kernel
theorem dX3_countInTrains_35 : decode cX3_countInTrains 35 = .ok (.aload_n 1, 1) := by decide +kernel
theorem dX3_countInTrains_36 : decode cX3_countInTrains 36 = .ok (.invokevirtual 189, 3) := by decide +kernel
theorem dX3_countInTrains_39 : decode cX3_countInTrains 39 = .ok (.iadd, 1) := by decide +kernel
theorem dX3_countInTrains_40 : decode cX3_countInTrains 40 = .ok (.istore_n 2, 1) := by decide +kernel
theorem dX3_countInTrains_41 : decode cX3_countInTrains 41 = .ok (.iinc 5 1, 3) := by decide +kernel
theorem dX3_countInTrains_44 : decode cX3_countInTrains 44 = .ok (.goto (-30), 3) := by decide +kernel
theorem dX3_countInTrains_47 : decode cX3_countInTrains 47 = .ok (.iload_n 2, 1) := by decide +kernel
theorem dX3_countInTrains_48 : decode cX3_countInTrains 48 = .ok (.ireturn, 1) := by decide +kernel
theorem dX4_init_0 : decode cX4_init 0 = .ok (.aload_n 0, 1) := by decide +kernel
theorem dX4_init_1 : decode cX4_init 1 = .ok (.invokespecial 3, 3) := by decide +kernel
theorem dX4_init_4 : decode cX4_init 4 = .ok (.aload_n 0, 1) := by decide +kernel
theorem dX4_init_5 : decode cX4_init 5 = .ok (.bipush 12, 2) := by decide +kernel
theorem dX4_init_7 : decode cX4_init 7 = .ok (.anewarray 9, 3) := by decide +kernel
theorem dX4_init_10 : decode cX4_init 10 = .ok (.putfield 11, 3) := by decide +kernel
theorem dX4_init_13 : decode cX4_init 13 = .ok (.return_, 1) := by decide +kernel
theorem dX4_blockOrNull_0 : decode cX4_blockOrNull 0 = .ok (.iload_n 1, 1) := by decide +kernel
theorem dX4_blockOrNull_1 : decode cX4_blockOrNull 1 = .ok (.ifCond .lt 21, 3) := by decide +kernel
theorem dX4_blockOrNull_4 : decode cX4_blockOrNull 4 = .ok (.iload_n 1, 1) := by decide +kernel
theorem dX4_blockOrNull_5 : decode cX4_blockOrNull 5 = .ok (.aload_n 0, 1) := by decide +kernel
theorem dX4_blockOrNull_6 : decode cX4_blockOrNull 6 = .ok (.getfield 11, 3) := by decide +kernel
theorem dX4_blockOrNull_9 : decode cX4_blockOrNull 9 = .ok (.arraylength, 1) := by decide +kernel
theorem dX4_blockOrNull_10 : decode cX4_blockOrNull 10 = .ok (.if_icmp .ge 12, 3) := by decide +kernel
theorem dX4_blockOrNull_13 : decode cX4_blockOrNull 13 = .ok (.aload_n 0, 1) := by decide +kernel
theorem dX4_blockOrNull_14 : decode cX4_blockOrNull 14 = .ok (.getfield 11, 3) := by decide +kernel
theorem dX4_blockOrNull_17 : decode cX4_blockOrNull 17 = .ok (.iload_n 1, 1) := by decide +kernel
theorem dX4_blockOrNull_18 : decode cX4_blockOrNull 18 = .ok (.aaload, 1) := by decide +kernel
theorem dX4_blockOrNull_19 : decode cX4_blockOrNull 19 = .ok (.goto 4, 3) := by decide +kernel
theorem dX4_blockOrNull_22 : decode cX4_blockOrNull 22 = .ok (.aconst_null, 1) := by decide +kernel
theorem dX4_blockOrNull_23 : decode cX4_blockOrNull 23 = .ok (.areturn, 1) := by decide +kernel
theorem dX4_append_0 : decode cX4_append 0 = .ok (.aload_n 0, 1) := by decide +kernel
theorem dX4_append_1 : decode cX4_append 1 = .ok (.getfield 17, 3) := by decide +kernel
theorem dX4_append_4 : decode cX4_append 4 = .ok (.ifCond .lt 15, 3) := by decide +kernel
theorem dX4_append_7 : decode cX4_append 7 = .ok (.aload_n 0, 1) := by decide +kernel
theorem dX4_append_8 : decode cX4_append 8 = .ok (.getfield 17, 3) := by decide +kernel
theorem dX4_append_11 : decode cX4_append 11 = .ok (.aload_n 0, 1) := by decide +kernel
theorem dX4_append_12 : decode cX4_append 12 = .ok (.getfield 11, 3) := by decide +kernel
theorem dX4_append_15 : decode cX4_append 15 = .ok (.arraylength, 1) := by decide +kernel
theorem dX4_append_16 : decode cX4_append 16 = .ok (.if_icmp .lt 5, 3) := by decide +kernel
theorem dX4_append_19 : decode cX4_append 19 = .ok (.iconst (-1), 1) := by decide +kernel
theorem dX4_append_20 : decode cX4_append 20 = .ok (.ireturn, 1) := by decide +kernel
theorem dX4_append_21 : decode cX4_append 21 = .ok (.aload_n 0, 1) := by decide +kernel
theorem dX4_append_22 : decode cX4_append 22 = .ok (.getfield 11, 3) := by decide +kernel
theorem dX4_append_25 : decode cX4_append 25 = .ok (.aload_n 0, 1) := by decide +kernel
theorem dX4_append_26 : decode cX4_append 26 = .ok (.getfield 17, 3) := by decide +kernel
theorem dX4_append_29 : decode cX4_append 29 = .ok (.aload_n 1, 1) := by decide +kernel
theorem dX4_append_30 : decode cX4_append 30 = .ok (.aastore, 1) := by decide +kernel
theorem dX4_append_31 : decode cX4_append 31 = .ok (.aload_n 0, 1) := by decide +kernel
theorem dX4_append_32 : decode cX4_append 32 = .ok (.dup, 1) := by decide +kernel
theorem dX4_append_33 : decode cX4_append 33 = .ok (.getfield 17, 3) := by decide +kernel
theorem dX4_append_36 : decode cX4_append 36 = .ok (.iconst 1, 1) := by decide +kernel
theorem dX4_append_37 : decode cX4_append 37 = .ok (.iadd, 1) := by decide +kernel
theorem dX4_append_38 : decode cX4_append 38 = .ok (.putfield 17, 3) := by decide +kernel
theorem dX4_append_41 : decode cX4_append 41 = .ok (.aload_n 0, 1) := by decide +kernel
theorem dX4_append_42 : decode cX4_append 42 = .ok (.getfield 17, 3) := by decide +kernel
theorem dX4_append_45 : decode cX4_append 45 = .ok (.iconst 1, 1) := by decide +kernel
theorem dX4_append_46 : decode cX4_append 46 = .ok (.isub, 1) := by decide +kernel
theorem dX4_append_47 : decode cX4_append 47 = .ok (.ireturn, 1) := by decide +kernel
theorem dX4_canBeClosed_0 : decode cX4_canBeClosed 0 = .ok (.iconst 0, 1) := by decide +kernel
theorem dX4_canBeClosed_1 : decode cX4_canBeClosed 1 = .ok (.istore_n 1, 1) := by decide +kernel
theorem dX4_canBeClosed_2 : decode cX4_canBeClosed 2 = .ok (.iconst 0, 1) := by decide +kernel
theorem dX4_canBeClosed_3 : decode cX4_canBeClosed 3 = .ok (.istore_n 2, 1) := by decide +kernel
theorem dX4_canBeClosed_4 : decode cX4_canBeClosed 4 = .ok (.aload_n 0, 1) := by decide +kernel
theorem dX4_canBeClosed_5 : decode cX4_canBeClosed 5 = .ok (.getfield 11, 3) := by decide +kernel
theorem dX4_canBeClosed_8 : decode cX4_canBeClosed 8 = .ok (.astore_n 3, 1) := by decide +kernel
theorem dX4_canBeClosed_9 : decode cX4_canBeClosed 9 = .ok (.aload_n 3, 1) := by decide +kernel
theorem dX4_canBeClosed_10 : decode cX4_canBeClosed 10 = .ok (.arraylength, 1) := by decide +kernel
theorem dX4_canBeClosed_11 : decode cX4_canBeClosed 11 = .ok (.istore 4, 2) := by decide +kernel
theorem dX4_canBeClosed_13 : decode cX4_canBeClosed 13 = .ok (.iconst 0, 1) := by decide +kernel
theorem dX4_canBeClosed_14 : decode cX4_canBeClosed 14 = .ok (.istore 5, 2) := by decide +kernel
theorem dX4_canBeClosed_16 : decode cX4_canBeClosed 16 = .ok (.iload 5, 2) := by decide +kernel
theorem dX4_canBeClosed_18 : decode cX4_canBeClosed 18 = .ok (.iload 4, 2) := by decide +kernel
theorem dX4_canBeClosed_20 : decode cX4_canBeClosed 20 = .ok (.if_icmp .ge 46, 3) := by decide +kernel
theorem dX4_canBeClosed_23 : decode cX4_canBeClosed 23 = .ok (.aload_n 3, 1) := by decide +kernel
theorem dX4_canBeClosed_24 : decode cX4_canBeClosed 24 = .ok (.iload 5, 2) := by decide +kernel
theorem dX4_canBeClosed_26 : decode cX4_canBeClosed 26 = .ok (.aaload, 1) := by decide +kernel
theorem dX4_canBeClosed_27 : decode cX4_canBeClosed 27 = .ok (.astore 6, 2) := by decide +kernel
theorem dX4_canBeClosed_29 : decode cX4_canBeClosed 29 = .ok (.aload 6, 2) := by decide +kernel
theorem dX4_canBeClosed_31 : decode cX4_canBeClosed 31 = .ok (.ifnull 29, 3) := by decide +kernel
theorem dX4_canBeClosed_34 : decode cX4_canBeClosed 34 = .ok (.iload_n 1, 1) := by decide +kernel
theorem dX4_canBeClosed_35 : decode cX4_canBeClosed 35 = .ok (.aload 6, 2) := by decide +kernel
theorem dX4_canBeClosed_37 : decode cX4_canBeClosed 37 = .ok (.getfield 21, 3) := by decide +kernel
theorem dX4_canBeClosed_40 : decode cX4_canBeClosed 40 = .ok (.bipush 115, 2) := by decide +kernel
theorem dX4_canBeClosed_42 : decode cX4_canBeClosed 42 = .ok (.if_icmp .ne 7, 3) := by decide +kernel
theorem dX4_canBeClosed_45 : decode cX4_canBeClosed 45 = .ok (.iconst 1, 1) := by decide +kernel
theorem dX4_canBeClosed_46 : decode cX4_canBeClosed 46 = .ok (.goto 4, 3) := by decide +kernel
theorem dX4_canBeClosed_49 : decode cX4_canBeClosed 49 = .ok (.iconst 0, 1) := by decide +kernel
theorem dX4_canBeClosed_50 : decode cX4_canBeClosed 50 = .ok (.iadd, 1) := by decide +kernel
theorem dX4_canBeClosed_51 : decode cX4_canBeClosed 51 = .ok (.istore_n 1, 1) := by decide +kernel
theorem dX4_canBeClosed_52 : decode cX4_canBeClosed 52 = .ok (.iload_n 2, 1) := by decide +kernel
theorem dX4_canBeClosed_53 : decode cX4_canBeClosed 53 = .ok (.aload 6, 2) := by decide +kernel
theorem dX4_canBeClosed_55 : decode cX4_canBeClosed 55 = .ok (.getfield 25, 3) := by decide +kernel
theorem dX4_canBeClosed_58 : decode cX4_canBeClosed 58 = .ok (.iadd, 1) := by decide +kernel
theorem dX4_canBeClosed_59 : decode cX4_canBeClosed 59 = .ok (.istore_n 2, 1) := by decide +kernel
theorem dX4_canBeClosed_60 : decode cX4_canBeClosed 60 = .ok (.iinc 5 1, 3) := by decide +kernel
theorem dX4_canBeClosed_63 : decode cX4_canBeClosed 63 = .ok (.goto (-47), 3) := by decide +kernel
theorem dX4_canBeClosed_66 : decode cX4_canBeClosed 66 = .ok (.aload_n 0, 1) := by decide +kernel
theorem dX4_canBeClosed_67 : decode cX4_canBeClosed 67 = .ok (.iconst 0, 1) := by decide +kernel
theorem dX4_canBeClosed_68 : decode cX4_canBeClosed 68 = .ok (.invokevirtual 28, 3) := by decide +kernel
theorem dX4_canBeClosed_71 : decode cX4_canBeClosed 71 = .ok (.astore_n 3, 1) := by decide +kernel
theorem dX4_canBeClosed_72 : decode cX4_canBeClosed 72 = .ok (.aload_n 0, 1) := by decide +kernel
theorem dX4_canBeClosed_73 : decode cX4_canBeClosed 73 = .ok (.getfield 17, 3) := by decide +kernel
theorem dX4_canBeClosed_76 : decode cX4_canBeClosed 76 = .ok (.iconst 4, 1) := by decide +kernel
theorem dX4_canBeClosed_77 : decode cX4_canBeClosed 77 = .ok (.if_icmp .lt 29, 3) := by decide +kernel
theorem dX4_canBeClosed_80 : decode cX4_canBeClosed 80 = .ok (.aload_n 3, 1) := by decide +kernel
theorem dX4_canBeClosed_81 : decode cX4_canBeClosed 81 = .ok (.ifnull 25, 3) := by decide +kernel
theorem dX4_canBeClosed_84 : decode cX4_canBeClosed 84 = .ok (.aload_n 3, 1) := by decide +kernel
theorem dX4_canBeClosed_85 : decode cX4_canBeClosed 85 = .ok (.getfield 21, 3) := by decide +kernel
theorem dX4_canBeClosed_88 : decode cX4_canBeClosed 88 = .ok (.bipush 115, 2) := by decide +kernel
theorem dX4_canBeClosed_90 : decode cX4_canBeClosed 90 = .ok (.if_icmp .ne 16, 3) := by decide +kernel
theorem dX4_canBeClosed_93 : decode cX4_canBeClosed 93 = .ok (.iload_n 1, 1) := by decide +kernel
theorem dX4_canBeClosed_94 : decode cX4_canBeClosed 94 = .ok (.iconst 1, 1) := by decide +kernel
theorem dX4_canBeClosed_95 : decode cX4_canBeClosed 95 = .ok (.if_icmp .ne 11, 3) := by decide +kernel
theorem dX4_canBeClosed_98 : decode cX4_canBeClosed 98 = .ok (.iload_n 2, 1) := by decide +kernel
theorem dX4_canBeClosed_99 : decode cX4_canBeClosed 99 = .ok (.ifCond .ne 7, 3) := by decide +kernel
theorem dX4_canBeClosed_102 : decode cX4_canBeClosed 102 = .ok (.iconst 1, 1) := by decide +kernel
theorem dX4_canBeClosed_103 : decode cX4_canBeClosed 103 = .ok (.goto 4, 3) := by decide +kernel
theorem dX4_canBeClosed_106 : decode cX4_canBeClosed 106 = .ok (.iconst 0, 1) := by decide +kernel
theorem dX4_canBeClosed_107 : decode cX4_canBeClosed 107 = .ok (.ireturn, 1) := by decide +kernel
theorem dX4_countStops_0 : decode cX4_countStops 0 = .ok (.iconst 0, 1) := by decide +kernel
theorem dX4_countStops_1 : decode cX4_countStops 1 = .ok (.istore_n 1, 1) := by decide +kernel
theorem dX4_countStops_2 : decode cX4_countStops 2 = .ok (.aload_n 0, 1) := by decide +kernel
theorem dX4_countStops_3 : decode cX4_countStops 3 = .ok (.getfield 11, 3) := by decide +kernel
theorem dX4_countStops_6 : decode cX4_countStops 6 = .ok (.astore_n 2, 1) := by decide +kernel
theorem dX4_countStops_7 : decode cX4_countStops 7 = .ok (.aload_n 2, 1) := by decide +kernel
theorem dX4_countStops_8 : decode cX4_countStops 8 = .ok (.arraylength, 1) := by decide +kernel
theorem dX4_countStops_9 : decode cX4_countStops 9 = .ok (.istore_n 3, 1) := by decide +kernel
theorem dX4_countStops_10 : decode cX4_countStops 10 = .ok (.iconst 0, 1) := by decide +kernel
theorem dX4_countStops_11 : decode cX4_countStops 11 = .ok (.istore 4, 2) := by decide +kernel
theorem dX4_countStops_13 : decode cX4_countStops 13 = .ok (.iload 4, 2) := by decide +kernel
theorem dX4_countStops_15 : decode cX4_countStops 15 = .ok (.iload_n 3, 1) := by decide +kernel
theorem dX4_countStops_16 : decode cX4_countStops 16 = .ok (.if_icmp .ge 31, 3) := by decide +kernel
theorem dX4_countStops_19 : decode cX4_countStops 19 = .ok (.aload_n 2, 1) := by decide +kernel
theorem dX4_countStops_20 : decode cX4_countStops 20 = .ok (.iload 4, 2) := by decide +kernel
theorem dX4_countStops_22 : decode cX4_countStops 22 = .ok (.aaload, 1) := by decide +kernel
theorem dX4_countStops_23 : decode cX4_countStops 23 = .ok (.astore 5, 2) := by decide +kernel
theorem dX4_countStops_25 : decode cX4_countStops 25 = .ok (.aload 5, 2) := by decide +kernel
theorem dX4_countStops_27 : decode cX4_countStops 27 = .ok (.ifnull 14, 3) := by decide +kernel
theorem dX4_countStops_30 : decode cX4_countStops 30 = .ok (.aload 5, 2) := by decide +kernel
theorem dX4_countStops_32 : decode cX4_countStops 32 = .ok (.invokevirtual 32, 3) := by decide +kernel
theorem dX4_countStops_35 : decode cX4_countStops 35 = .ok (.ifCond .eq 6, 3) := by decide +kernel
theorem dX4_countStops_38 : decode cX4_countStops 38 = .ok (.iinc 1 1, 3) := by decide +kernel
theorem dX4_countStops_41 : decode cX4_countStops 41 = .ok (.iinc 4 1, 3) := by decide +kernel
theorem dX4_countStops_44 : decode cX4_countStops 44 = .ok (.goto (-31), 3) := by decide +kernel
theorem dX4_countStops_47 : decode cX4_countStops 47 = .ok (.iload_n 1, 1) := by decide +kernel
theorem dX4_countStops_48 : decode cX4_countStops 48 = .ok (.ireturn, 1) := by decide +kernel
theorem dX4_next_0 : decode cX4_next 0 = .ok (.iload_n 1, 1) := by decide +kernel
theorem dX4_next_1 : decode cX4_next 1 = .ok (.iconst 1, 1) := by decide +kernel
theorem dX4_next_2 : decode cX4_next 2 = .ok (.iadd, 1) := by decide +kernel
theorem dX4_next_3 : decode cX4_next 3 = .ok (.aload_n 0, 1) := by decide +kernel
theorem dX4_next_4 : decode cX4_next 4 = .ok (.getfield 17, 3) := by decide +kernel
theorem dX4_next_7 : decode cX4_next 7 = .ok (.if_icmp .ge 9, 3) := by decide +kernel
theorem dX4_next_10 : decode cX4_next 10 = .ok (.iload_n 1, 1) := by decide +kernel
theorem dX4_next_11 : decode cX4_next 11 = .ok (.iconst 1, 1) := by decide +kernel
theorem dX4_next_12 : decode cX4_next 12 = .ok (.iadd, 1) := by decide +kernel
theorem dX4_next_13 : decode cX4_next 13 = .ok (.goto 4, 3) := by decide +kernel
theorem dX4_next_16 : decode cX4_next 16 = .ok (.iconst 0, 1) := by decide +kernel
theorem dX4_next_17 : decode cX4_next 17 = .ok (.ireturn, 1) := by decide +kernel
theorem dX4_isStop_0 : decode cX4_isStop 0 = .ok (.aload_n 0, 1) := by decide +kernel
theorem dX4_isStop_1 : decode cX4_isStop 1 = .ok (.iload_n 1, 1) := by decide +kernel
theorem dX4_isStop_2 : decode cX4_isStop 2 = .ok (.invokevirtual 28, 3) := by decide +kernel
theorem dX4_isStop_5 : decode cX4_isStop 5 = .ok (.astore_n 2, 1) := by decide +kernel
theorem dX4_isStop_6 : decode cX4_isStop 6 = .ok (.aload_n 2, 1) := by decide +kernel
theorem dX4_isStop_7 : decode cX4_isStop 7 = .ok (.ifnull 14, 3) := by decide +kernel
theorem dX4_isStop_10 : decode cX4_isStop 10 = .ok (.aload_n 2, 1) := by decide +kernel
theorem dX4_isStop_11 : decode cX4_isStop 11 = .ok (.invokevirtual 32, 3) := by decide +kernel
theorem dX4_isStop_14 : decode cX4_isStop 14 = .ok (.ifCond .eq 7, 3) := by decide +kernel
theorem dX4_isStop_17 : decode cX4_isStop 17 = .ok (.iconst 1, 1) := by decide +kernel
theorem dX4_isStop_18 : decode cX4_isStop 18 = .ok (.goto 4, 3) := by decide +kernel
theorem dX4_isStop_21 : decode cX4_isStop 21 = .ok (.iconst 0, 1) := by decide +kernel
theorem dX4_isStop_22 : decode cX4_isStop 22 = .ok (.ireturn, 1) := by decide +kernel
theorem dX4_nextStop_0 : decode cX4_nextStop 0 = .ok (.aload_n 0, 1) := by decide +kernel
theorem dX4_nextStop_1 : decode cX4_nextStop 1 = .ok (.iload_n 1, 1) := by decide +kernel
theorem dX4_nextStop_2 : decode cX4_nextStop 2 = .ok (.invokevirtual 36, 3) := by decide +kernel
theorem dX4_nextStop_5 : decode cX4_nextStop 5 = .ok (.istore_n 2, 1) := by decide +kernel
theorem dX4_nextStop_6 : decode cX4_nextStop 6 = .ok (.iconst 0, 1) := by decide +kernel
theorem dX4_nextStop_7 : decode cX4_nextStop 7 = .ok (.istore_n 3, 1) := by decide +kernel
theorem dX4_nextStop_8 : decode cX4_nextStop 8 = .ok (.iload_n 3, 1) := by decide +kernel
theorem dX4_nextStop_9 : decode cX4_nextStop 9 = .ok (.aload_n 0, 1) := by decide +kernel
theorem dX4_nextStop_10 : decode cX4_nextStop 10 = .ok (.getfield 17, 3) := by decide +kernel
theorem dX4_nextStop_13 : decode cX4_nextStop 13 = .ok (.if_icmp .ge 23, 3) := by decide +kernel
theorem dX4_nextStop_16 : decode cX4_nextStop 16 = .ok (.aload_n 0, 1) := by decide +kernel
theorem dX4_nextStop_17 : decode cX4_nextStop 17 = .ok (.iload_n 2, 1) := by decide +kernel
theorem dX4_nextStop_18 : decode cX4_nextStop 18 = .ok (.invokevirtual 40, 3) := by decide +kernel
theorem dX4_nextStop_21 : decode cX4_nextStop 21 = .ok (.ifCond .ne 15, 3) := by decide +kernel
theorem dX4_nextStop_24 : decode cX4_nextStop 24 = .ok (.aload_n 0, 1) := by decide +kernel
theorem dX4_nextStop_25 : decode cX4_nextStop 25 = .ok (.iload_n 2, 1) := by decide +kernel
theorem dX4_nextStop_26 : decode cX4_nextStop 26 = .ok (.invokevirtual 36, 3) := by decide +kernel
theorem dX4_nextStop_29 : decode cX4_nextStop 29 = .ok (.istore_n 2, 1) := by decide +kernel
theorem dX4_nextStop_30 : decode cX4_nextStop 30 = .ok (.iinc 3 1, 3) := by decide +kernel
theorem dX4_nextStop_33 : decode cX4_nextStop 33 = .ok (.goto (-25), 3) := by decide +kernel
theorem dX4_nextStop_36 : decode cX4_nextStop 36 = .ok (.iload_n 2, 1) := by decide +kernel
theorem dX4_nextStop_37 : decode cX4_nextStop 37 = .ok (.ireturn, 1) := by decide +kernel
theorem dX4_pathBehind_0 : decode cX4_pathBehind 0 = .ok (.iconst 0, 1) := by decide +kernel
theorem dX4_pathBehind_1 : decode cX4_pathBehind 1 = .ok (.istore_n 2, 1) := by decide +kernel
theorem dX4_pathBehind_2 : decode cX4_pathBehind 2 = .ok (.iload_n 1, 1) := by decide +kernel
theorem dX4_pathBehind_3 : decode cX4_pathBehind 3 = .ok (.istore_n 3, 1) := by decide +kernel
theorem dX4_pathBehind_4 : decode cX4_pathBehind 4 = .ok (.iconst 0, 1) := by decide +kernel
theorem dX4_pathBehind_5 : decode cX4_pathBehind 5 = .ok (.istore 4, 2) := by decide +kernel
theorem dX4_pathBehind_7 : decode cX4_pathBehind 7 = .ok (.iload 4, 2) := by decide +kernel
theorem dX4_pathBehind_9 : decode cX4_pathBehind 9 = .ok (.aload_n 0, 1) := by decide +kernel
theorem dX4_pathBehind_10 : decode cX4_pathBehind 10 = .ok (.getfield 17, 3) := by decide +kernel
theorem dX4_pathBehind_13 : decode cX4_pathBehind 13 = .ok (.if_icmp .ge 31, 3) := by decide +kernel
theorem dX4_pathBehind_16 : decode cX4_pathBehind 16 = .ok (.aload_n 0, 1) := by decide +kernel
theorem dX4_pathBehind_17 : decode cX4_pathBehind 17 = .ok (.iload_n 3, 1) := by decide +kernel
theorem dX4_pathBehind_18 : decode cX4_pathBehind 18 = .ok (.invokevirtual 36, 3) := by decide +kernel
theorem dX4_pathBehind_21 : decode cX4_pathBehind 21 = .ok (.istore_n 3, 1) := by decide +kernel
theorem dX4_pathBehind_22 : decode cX4_pathBehind 22 = .ok (.iload_n 2, 1) := by decide +kernel
theorem dX4_pathBehind_23 : decode cX4_pathBehind 23 = .ok (.iconst 1, 1) := by decide +kernel
theorem dX4_pathBehind_24 : decode cX4_pathBehind 24 = .ok (.iload_n 3, 1) := by decide +kernel
theorem dX4_pathBehind_25 : decode cX4_pathBehind 25 = .ok (.ishl, 1) := by decide +kernel
theorem dX4_pathBehind_26 : decode cX4_pathBehind 26 = .ok (.ior, 1) := by decide +kernel
theorem dX4_pathBehind_27 : decode cX4_pathBehind 27 = .ok (.istore_n 2, 1) := by decide +kernel
theorem dX4_pathBehind_28 : decode cX4_pathBehind 28 = .ok (.aload_n 0, 1) := by decide +kernel
theorem dX4_pathBehind_29 : decode cX4_pathBehind 29 = .ok (.iload_n 3, 1) := by decide +kernel
theorem dX4_pathBehind_30 : decode cX4_pathBehind 30 = .ok (.invokevirtual 40, 3) := by decide +kernel
theorem dX4_pathBehind_33 : decode cX4_pathBehind 33 = .ok (.ifCond .eq 5, 3) := by decide +kernel
theorem dX4_pathBehind_36 : decode cX4_pathBehind 36 = .ok (.iload_n 2, 1) := by decide +kernel
theorem dX4_pathBehind_37 : decode cX4_pathBehind 37 = .ok (.ireturn, 1) := by decide +kernel
theorem dX4_pathBehind_38 : decode cX4_pathBehind 38 = .ok (.iinc 4 1, 3) := by decide +kernel
theorem dX4_pathBehind_41 : decode cX4_pathBehind 41 = .ok (.goto (-34), 3) := by decide +kernel
theorem dX4_pathBehind_44 : decode cX4_pathBehind 44 = .ok (.iload_n 2, 1) := by decide +kernel
theorem dX4_pathBehind_45 : decode cX4_pathBehind 45 = .ok (.ireturn, 1) := by decide +kernel
theorem dX4_isRunBad_0 : decode cX4_isRunBad 0 = .ok (.iconst 3, 1) := by decide +kernel
theorem dX4_isRunBad_1 : decode cX4_isRunBad 1 = .ok (.istore_n 3, 1) := by decide +kernel
theorem dX4_isRunBad_2 : decode cX4_isRunBad 2 = .ok (.iconst 0, 1) := by decide +kernel
theorem dX4_isRunBad_3 : decode cX4_isRunBad 3 = .ok (.istore 4, 2) := by decide +kernel
theorem dX4_isRunBad_5 : decode cX4_isRunBad 5 = .ok (.aload_n 0, 1) := by decide +kernel
theorem dX4_isRunBad_6 : decode cX4_isRunBad 6 = .ok (.iload_n 1, 1) := by decide +kernel
theorem dX4_isRunBad_7 : decode cX4_isRunBad 7 = .ok (.invokevirtual 36, 3) := by decide +kernel
theorem dX4_isRunBad_10 : decode cX4_isRunBad 10 = .ok (.istore 5, 2) := by decide +kernel
theorem dX4_isRunBad_12 : decode cX4_isRunBad 12 = .ok (.iconst 0, 1) := by decide +kernel
theorem dX4_isRunBad_13 : decode cX4_isRunBad 13 = .ok (.istore 6, 2) := by decide +kernel
theorem dX4_isRunBad_15 : decode cX4_isRunBad 15 = .ok (.iload 6, 2) := by decide +kernel
theorem dX4_isRunBad_17 : decode cX4_isRunBad 17 = .ok (.aload_n 0, 1) := by decide +kernel
theorem dX4_isRunBad_18 : decode cX4_isRunBad 18 = .ok (.getfield 17, 3) := by decide +kernel
theorem dX4_isRunBad_21 : decode cX4_isRunBad 21 = .ok (.if_icmp .ge 91, 3) := by decide +kernel
theorem dX4_isRunBad_24 : decode cX4_isRunBad 24 = .ok (.aload_n 0, 1) := by decide +kernel
theorem dX4_isRunBad_25 : decode cX4_isRunBad 25 = .ok (.iload 5, 2) := by decide +kernel
theorem dX4_isRunBad_27 : decode cX4_isRunBad 27 = .ok (.invokevirtual 28, 3) := by decide +kernel
theorem dX4_isRunBad_30 : decode cX4_isRunBad 30 = .ok (.astore 7, 2) := by decide +kernel
theorem dX4_isRunBad_32 : decode cX4_isRunBad 32 = .ok (.aload 7, 2) := by decide +kernel
theorem dX4_isRunBad_34 : decode cX4_isRunBad 34 = .ok (.ifnull 11, 3) := by decide +kernel
theorem dX4_isRunBad_37 : decode cX4_isRunBad 37 = .ok (.aload 7, 2) := by decide +kernel
theorem dX4_isRunBad_39 : decode cX4_isRunBad 39 = .ok (.invokevirtual 32, 3) := by decide +kernel
theorem dX4_isRunBad_42 : decode cX4_isRunBad 42 = .ok (.ifCond .eq 5, 3) := by decide +kernel
theorem dX4_isRunBad_45 : decode cX4_isRunBad 45 = .ok (.iconst 0, 1) := by decide +kernel
theorem dX4_isRunBad_46 : decode cX4_isRunBad 46 = .ok (.ireturn, 1) := by decide +kernel
theorem dX4_isRunBad_47 : decode cX4_isRunBad 47 = .ok (.aload 7, 2) := by decide +kernel
theorem dX4_isRunBad_49 : decode cX4_isRunBad 49 = .ok (.iload_n 3, 1) := by decide +kernel
theorem dX4_isRunBad_50 : decode cX4_isRunBad 50 = .ok (.invokevirtual 43, 3) := by decide +kernel
theorem dX4_isRunBad_53 : decode cX4_isRunBad 53 = .ok (.istore 8, 2) := by decide +kernel
theorem dX4_isRunBad_55 : decode cX4_isRunBad 55 = .ok (.iload 8, 2) := by decide +kernel
theorem dX4_isRunBad_57 : decode cX4_isRunBad 57 = .ok (.iconst 4, 1) := by decide +kernel
theorem dX4_isRunBad_58 : decode cX4_isRunBad 58 = .ok (.if_icmp .le 10, 3) := by decide +kernel
theorem dX4_isRunBad_61 : decode cX4_isRunBad 61 = .ok (.iload 4, 2) := by decide +kernel
theorem dX4_isRunBad_63 : decode cX4_isRunBad 63 = .ok (.iconst 1, 1) := by decide +kernel
theorem dX4_isRunBad_64 : decode cX4_isRunBad 64 = .ok (.iadd, 1) := by decide +kernel
theorem dX4_isRunBad_65 : decode cX4_isRunBad 65 = .ok (.goto 4, 3) := by decide +kernel
theorem dX4_isRunBad_68 : decode cX4_isRunBad 68 = .ok (.iconst 0, 1) := by decide +kernel
theorem dX4_isRunBad_69 : decode cX4_isRunBad 69 = .ok (.istore 4, 2) := by decide +kernel
theorem dX4_isRunBad_71 : decode cX4_isRunBad 71 = .ok (.aload 7, 2) := by decide +kernel
theorem dX4_isRunBad_73 : decode cX4_isRunBad 73 = .ok (.iload_n 3, 1) := by decide +kernel
theorem dX4_isRunBad_74 : decode cX4_isRunBad 74 = .ok (.iload_n 2, 1) := by decide +kernel
theorem dX4_isRunBad_75 : decode cX4_isRunBad 75 = .ok (.invokevirtual 46, 3) := by decide +kernel
theorem dX4_isRunBad_78 : decode cX4_isRunBad 78 = .ok (.istore_n 3, 1) := by decide +kernel
theorem dX4_isRunBad_79 : decode cX4_isRunBad 79 = .ok (.iload 8, 2) := by decide +kernel
theorem dX4_isRunBad_81 : decode cX4_isRunBad 81 = .ok (.bipush 6, 2) := by decide +kernel
theorem dX4_isRunBad_83 : decode cX4_isRunBad 83 = .ok (.if_icmp .gt 13, 3) := by decide +kernel
theorem dX4_isRunBad_86 : decode cX4_isRunBad 86 = .ok (.iload 4, 2) := by decide +kernel
theorem dX4_isRunBad_88 : decode cX4_isRunBad 88 = .ok (.iconst 3, 1) := by decide +kernel
theorem dX4_isRunBad_89 : decode cX4_isRunBad 89 = .ok (.if_icmp .ge 7, 3) := by decide +kernel
theorem dX4_isRunBad_92 : decode cX4_isRunBad 92 = .ok (.iload_n 3, 1) := by decide +kernel
theorem dX4_isRunBad_93 : decode cX4_isRunBad 93 = .ok (.ifCond .ge 5, 3) := by decide +kernel
theorem dX4_isRunBad_96 : decode cX4_isRunBad 96 = .ok (.iconst 1, 1) := by decide +kernel
theorem dX4_isRunBad_97 : decode cX4_isRunBad 97 = .ok (.ireturn, 1) := by decide +kernel
theorem dX4_isRunBad_98 : decode cX4_isRunBad 98 = .ok (.aload_n 0, 1) := by decide +kernel
theorem dX4_isRunBad_99 : decode cX4_isRunBad 99 = .ok (.iload 5, 2) := by decide +kernel
theorem dX4_isRunBad_101 : decode cX4_isRunBad 101 = .ok (.invokevirtual 36, 3) := by decide +kernel
theorem dX4_isRunBad_104 : decode cX4_isRunBad 104 = .ok (.istore 5, 2) := by decide +kernel
theorem dX4_isRunBad_106 : decode cX4_isRunBad 106 = .ok (.iinc 6 1, 3) := by decide +kernel
theorem dX4_isRunBad_109 : decode cX4_isRunBad 109 = .ok (.goto (-94), 3) := by decide +kernel
theorem dX4_isRunBad_112 : decode cX4_isRunBad 112 = .ok (.iconst 0, 1) := by decide +kernel
theorem dX4_isRunBad_113 : decode cX4_isRunBad 113 = .ok (.ireturn, 1) := by decide +kernel
theorem dX4_forceOfRun_0 : decode cX4_forceOfRun 0 = .ok (.iconst 3, 1) := by decide +kernel
theorem dX4_forceOfRun_1 : decode cX4_forceOfRun 1 = .ok (.istore_n 3, 1) := by decide +kernel
theorem dX4_forceOfRun_2 : decode cX4_forceOfRun 2 = .ok (.iconst 0, 1) := by decide +kernel
theorem dX4_forceOfRun_3 : decode cX4_forceOfRun 3 = .ok (.istore 4, 2) := by decide +kernel
theorem dX4_forceOfRun_5 : decode cX4_forceOfRun 5 = .ok (.iconst 0, 1) := by decide +kernel
theorem dX4_forceOfRun_6 : decode cX4_forceOfRun 6 = .ok (.istore 5, 2) := by decide +kernel
theorem dX4_forceOfRun_8 : decode cX4_forceOfRun 8 = .ok (.iload 5, 2) := by decide +kernel
theorem dX4_forceOfRun_10 : decode cX4_forceOfRun 10 = .ok (.iload_n 1, 1) := by decide +kernel
theorem dX4_forceOfRun_11 : decode cX4_forceOfRun 11 = .ok (.if_icmp .gt 86, 3) := by decide +kernel
theorem dX4_forceOfRun_14 : decode cX4_forceOfRun 14 = .ok (.iload 5, 2) := by decide +kernel
theorem dX4_forceOfRun_16 : decode cX4_forceOfRun 16 = .ok (.aload_n 0, 1) := by decide +kernel
theorem dX4_forceOfRun_17 : decode cX4_forceOfRun 17 = .ok (.getfield 17, 3) := by decide +kernel
theorem dX4_forceOfRun_20 : decode cX4_forceOfRun 20 = .ok (.if_icmp .ge 77, 3) := by decide +kernel
theorem dX4_forceOfRun_23 : decode cX4_forceOfRun 23 = .ok (.aload_n 0, 1) := by decide +kernel
theorem dX4_forceOfRun_24 : decode cX4_forceOfRun 24 = .ok (.iload 5, 2) := by decide +kernel
theorem dX4_forceOfRun_26 : decode cX4_forceOfRun 26 = .ok (.invokevirtual 28, 3) := by decide +kernel
theorem dX4_forceOfRun_29 : decode cX4_forceOfRun 29 = .ok (.astore 6, 2) := by decide +kernel
theorem dX4_forceOfRun_31 : decode cX4_forceOfRun 31 = .ok (.aload 6, 2) := by decide +kernel
theorem dX4_forceOfRun_33 : decode cX4_forceOfRun 33 = .ok (.ifnonnull 5, 3) := by decide +kernel
theorem dX4_forceOfRun_36 : decode cX4_forceOfRun 36 = .ok (.iconst 0, 1) := by decide +kernel
theorem dX4_forceOfRun_37 : decode cX4_forceOfRun 37 = .ok (.ireturn, 1) := by decide +kernel
theorem dX4_forceOfRun_38 : decode cX4_forceOfRun 38 = .ok (.iload_n 3, 1) := by decide +kernel
theorem dX4_forceOfRun_39 : decode cX4_forceOfRun 39 = .ok (.ifCond .ge 15, 3) := by decide +kernel
theorem dX4_forceOfRun_42 : decode cX4_forceOfRun 42 = .ok (.aload 6, 2) := by decide +kernel
theorem dX4_forceOfRun_44 : decode cX4_forceOfRun 44 = .ok (.invokevirtual 32, 3) := by decide +kernel
theorem dX4_forceOfRun_47 : decode cX4_forceOfRun 47 = .ok (.ifCond .ne 7, 3) := by decide +kernel
theorem dX4_forceOfRun_50 : decode cX4_forceOfRun 50 = .ok (.iconst 1, 1) := by decide +kernel
theorem dX4_forceOfRun_51 : decode cX4_forceOfRun 51 = .ok (.goto 4, 3) := by decide +kernel
theorem dX4_forceOfRun_54 : decode cX4_forceOfRun 54 = .ok (.iconst 0, 1) := by decide +kernel
theorem dX4_forceOfRun_55 : decode cX4_forceOfRun 55 = .ok (.istore 7, 2) := by decide +kernel
theorem dX4_forceOfRun_57 : decode cX4_forceOfRun 57 = .ok (.iload 7, 2) := by decide +kernel
theorem dX4_forceOfRun_59 : decode cX4_forceOfRun 59 = .ok (.ifCond .eq 7, 3) := by decide +kernel
theorem dX4_forceOfRun_62 : decode cX4_forceOfRun 62 = .ok (.iconst 0, 1) := by decide +kernel
theorem dX4_forceOfRun_63 : decode cX4_forceOfRun 63 = .ok (.goto 9, 3) := by decide +kernel
theorem dX4_forceOfRun_66 : decode cX4_forceOfRun 66 = .ok (.aload 6, 2) := by decide +kernel
theorem dX4_forceOfRun_68 : decode cX4_forceOfRun 68 = .ok (.iload_n 3, 1) := by decide +kernel
theorem dX4_forceOfRun_69 : decode cX4_forceOfRun 69 = .ok (.invokevirtual 43, 3) := by decide +kernel
theorem dX4_forceOfRun_72 : decode cX4_forceOfRun 72 = .ok (.istore 4, 2) := by decide +kernel
theorem dX4_forceOfRun_74 : decode cX4_forceOfRun 74 = .ok (.iload 7, 2) := by decide +kernel
theorem dX4_forceOfRun_76 : decode cX4_forceOfRun 76 = .ok (.ifCond .eq 7, 3) := by decide +kernel
theorem dX4_forceOfRun_79 : decode cX4_forceOfRun 79 = .ok (.iload_n 3, 1) := by decide +kernel
theorem dX4_forceOfRun_80 : decode cX4_forceOfRun 80 = .ok (.goto 10, 3) := by decide +kernel
theorem dX4_forceOfRun_83 : decode cX4_forceOfRun 83 = .ok (.aload 6, 2) := by decide +kernel
theorem dX4_forceOfRun_85 : decode cX4_forceOfRun 85 = .ok (.iload_n 3, 1) := by decide +kernel
theorem dX4_forceOfRun_86 : decode cX4_forceOfRun 86 = .ok (.iload_n 2, 1) := by decide +kernel
theorem dX4_forceOfRun_87 : decode cX4_forceOfRun 87 = .ok (.invokevirtual 46, 3) := by decide +kernel
theorem dX4_forceOfRun_90 : decode cX4_forceOfRun 90 = .ok (.istore_n 3, 1) := by decide +kernel
theorem dX4_forceOfRun_91 : decode cX4_forceOfRun 91 = .ok (.iinc 5 1, 3) := by decide +kernel
theorem dX4_forceOfRun_94 : decode cX4_forceOfRun 94 = .ok (.goto (-86), 3) := by decide +kernel
theorem dX4_forceOfRun_97 : decode cX4_forceOfRun 97 = .ok (.iload 4, 2) := by decide +kernel
theorem dX4_forceOfRun_99 : decode cX4_forceOfRun 99 = .ok (.ireturn, 1) := by decide +kernel
theorem dX5_init_0 : decode cX5_init 0 = .ok (.aload_n 0, 1) := by decide +kernel
theorem dX5_init_1 : decode cX5_init 1 = .ok (.invokespecial 3, 3) := by decide +kernel
theorem dX5_init_4 : decode cX5_init 4 = .ok (.aload_n 0, 1) := by decide +kernel
theorem dX5_init_5 : decode cX5_init 5 = .ok (.iconst 0, 1) := by decide +kernel
theorem dX5_init_6 : decode cX5_init 6 = .ok (.putfield 9, 3) := by decide +kernel
theorem dX5_init_9 : decode cX5_init 9 = .ok (.aload_n 0, 1) := by decide +kernel
theorem dX5_init_10 : decode cX5_init 10 = .ok (.bipush 115, 2) := by decide +kernel
theorem dX5_init_12 : decode cX5_init 12 = .ok (.putfield 15, 3) := by decide +kernel
theorem dX5_init_15 : decode cX5_init 15 = .ok (.aload_n 0, 1) := by decide +kernel
theorem dX5_init_16 : decode cX5_init 16 = .ok (.iconst 1, 1) := by decide +kernel
theorem dX5_init_17 : decode cX5_init 17 = .ok (.putfield 19, 3) := by decide +kernel
theorem dX5_init_20 : decode cX5_init 20 = .ok (.aload_n 0, 1) := by decide +kernel
theorem dX5_init_21 : decode cX5_init 21 = .ok (.iload_n 1, 1) := by decide +kernel
theorem dX5_init_22 : decode cX5_init 22 = .ok (.putfield 22, 3) := by decide +kernel
theorem dX5_init_25 : decode cX5_init 25 = .ok (.aload_n 0, 1) := by decide +kernel
theorem dX5_init_26 : decode cX5_init 26 = .ok (.bipush 8, 2) := by decide +kernel
theorem dX5_init_28 : decode cX5_init 28 = .ok (.anewarray 25, 3) := by decide +kernel
theorem dX5_init_31 : decode cX5_init 31 = .ok (.putfield 27, 3) := by decide +kernel
theorem dX5_init_34 : decode cX5_init 34 = .ok (.return_, 1) := by decide +kernel
theorem dX5_freeSeats_0 : decode cX5_freeSeats 0 = .ok (.aload_n 0, 1) := by decide +kernel
theorem dX5_freeSeats_1 : decode cX5_freeSeats 1 = .ok (.getfield 22, 3) := by decide +kernel
theorem dX5_freeSeats_4 : decode cX5_freeSeats 4 = .ok (.aload_n 0, 1) := by decide +kernel
theorem dX5_freeSeats_5 : decode cX5_freeSeats 5 = .ok (.getfield 31, 3) := by decide +kernel
theorem dX5_freeSeats_8 : decode cX5_freeSeats 8 = .ok (.isub, 1) := by decide +kernel
theorem dX5_freeSeats_9 : decode cX5_freeSeats 9 = .ok (.ireturn, 1) := by decide +kernel
theorem dX5_isLargerParty_0 : decode cX5_isLargerParty 0 = .ok (.iload_n 1, 1) := by decide +kernel
theorem dX5_isLargerParty_1 : decode cX5_isLargerParty 1 = .ok (.aload_n 0, 1) := by decide +kernel
theorem dX5_isLargerParty_2 : decode cX5_isLargerParty 2 = .ok (.getfield 22, 3) := by decide +kernel
theorem dX5_isLargerParty_5 : decode cX5_isLargerParty 5 = .ok (.if_icmp .le 7, 3) := by decide +kernel
theorem dX5_isLargerParty_8 : decode cX5_isLargerParty 8 = .ok (.iconst 1, 1) := by decide +kernel
theorem dX5_isLargerParty_9 : decode cX5_isLargerParty 9 = .ok (.goto 4, 3) := by decide +kernel
theorem dX5_isLargerParty_12 : decode cX5_isLargerParty 12 = .ok (.iconst 0, 1) := by decide +kernel
theorem dX5_isLargerParty_13 : decode cX5_isLargerParty 13 = .ok (.ireturn, 1) := by decide +kernel
theorem dX5_seat_0 : decode cX5_seat 0 = .ok (.aload_n 0, 1) := by decide +kernel
theorem dX5_seat_1 : decode cX5_seat 1 = .ok (.getfield 31, 3) := by decide +kernel
theorem dX5_seat_4 : decode cX5_seat 4 = .ok (.ifCond .lt 39, 3) := by decide +kernel
theorem dX5_seat_7 : decode cX5_seat 7 = .ok (.aload_n 0, 1) := by decide +kernel
theorem dX5_seat_8 : decode cX5_seat 8 = .ok (.getfield 31, 3) := by decide +kernel
theorem dX5_seat_11 : decode cX5_seat 11 = .ok (.aload_n 0, 1) := by decide +kernel
theorem dX5_seat_12 : decode cX5_seat 12 = .ok (.getfield 27, 3) := by decide +kernel
theorem dX5_seat_15 : decode cX5_seat 15 = .ok (.arraylength, 1) := by decide +kernel
theorem dX5_seat_16 : decode cX5_seat 16 = .ok (.if_icmp .ge 27, 3) := by decide +kernel
theorem dX5_seat_19 : decode cX5_seat 19 = .ok (.aload_n 0, 1) := by decide +kernel
theorem dX5_seat_20 : decode cX5_seat 20 = .ok (.getfield 27, 3) := by decide +kernel
theorem dX5_seat_23 : decode cX5_seat 23 = .ok (.aload_n 0, 1) := by decide +kernel
theorem dX5_seat_24 : decode cX5_seat 24 = .ok (.getfield 31, 3) := by decide +kernel
theorem dX5_seat_27 : decode cX5_seat 27 = .ok (.aload_n 1, 1) := by decide +kernel
theorem dX5_seat_28 : decode cX5_seat 28 = .ok (.aastore, 1) := by decide +kernel
theorem dX5_seat_29 : decode cX5_seat 29 = .ok (.aload_n 0, 1) := by decide +kernel
theorem dX5_seat_30 : decode cX5_seat 30 = .ok (.dup, 1) := by decide +kernel
theorem dX5_seat_31 : decode cX5_seat 31 = .ok (.getfield 31, 3) := by decide +kernel
theorem dX5_seat_34 : decode cX5_seat 34 = .ok (.iconst 1, 1) := by decide +kernel
theorem dX5_seat_35 : decode cX5_seat 35 = .ok (.iadd, 1) := by decide +kernel
theorem dX5_seat_36 : decode cX5_seat 36 = .ok (.putfield 31, 3) := by decide +kernel
theorem dX5_seat_39 : decode cX5_seat 39 = .ok (.aload_n 1, 1) := by decide +kernel
theorem dX5_seat_40 : decode cX5_seat 40 = .ok (.invokevirtual 34, 3) := by decide +kernel
theorem dX5_seat_43 : decode cX5_seat 43 = .ok (.return_, 1) := by decide +kernel
theorem dX5_holds_0 : decode cX5_holds 0 = .ok (.aload_n 0, 1) := by decide +kernel
theorem dX5_holds_1 : decode cX5_holds 1 = .ok (.getfield 19, 3) := by decide +kernel
theorem dX5_holds_4 : decode cX5_holds 4 = .ok (.iconst 1, 1) := by decide +kernel
theorem dX5_holds_5 : decode cX5_holds 5 = .ok (.iload_n 1, 1) := by decide +kernel
theorem dX5_holds_6 : decode cX5_holds 6 = .ok (.ishl, 1) := by decide +kernel
theorem dX5_holds_7 : decode cX5_holds 7 = .ok (.iand, 1) := by decide +kernel
theorem dX5_holds_8 : decode cX5_holds 8 = .ok (.ifCond .eq 7, 3) := by decide +kernel
theorem dX5_holds_11 : decode cX5_holds 11 = .ok (.iconst 1, 1) := by decide +kernel
theorem dX5_holds_12 : decode cX5_holds 12 = .ok (.goto 4, 3) := by decide +kernel
theorem dX5_holds_15 : decode cX5_holds 15 = .ok (.iconst 0, 1) := by decide +kernel
theorem dX5_holds_16 : decode cX5_holds 16 = .ok (.ireturn, 1) := by decide +kernel
theorem dX5_leaveStop_0 : decode cX5_leaveStop 0 = .ok (.aload_n 0, 1) := by decide +kernel
theorem dX5_leaveStop_1 : decode cX5_leaveStop 1 = .ok (.bipush 109, 2) := by decide +kernel
theorem dX5_leaveStop_3 : decode cX5_leaveStop 3 = .ok (.putfield 15, 3) := by decide +kernel
theorem dX5_leaveStop_6 : decode cX5_leaveStop 6 = .ok (.aload_n 0, 1) := by decide +kernel
theorem dX5_leaveStop_7 : decode cX5_leaveStop 7 = .ok (.aload_n 0, 1) := by decide +kernel
theorem dX5_leaveStop_8 : decode cX5_leaveStop 8 = .ok (.getfield 19, 3) := by decide +kernel
theorem dX5_leaveStop_11 : decode cX5_leaveStop 11 = .ok (.iload_n 1, 1) := by decide +kernel
theorem dX5_leaveStop_12 : decode cX5_leaveStop 12 = .ok (.ior, 1) := by decide +kernel
theorem dX5_leaveStop_13 : decode cX5_leaveStop 13 = .ok (.putfield 19, 3) := by decide +kernel
theorem dX5_leaveStop_16 : decode cX5_leaveStop 16 = .ok (.aload_n 0, 1) := by decide +kernel
theorem dX5_leaveStop_17 : decode cX5_leaveStop 17 = .ok (.getfield 9, 3) := by decide +kernel
theorem dX5_leaveStop_20 : decode cX5_leaveStop 20 = .ok (.ifCond .ne 8, 3) := by decide +kernel
theorem dX5_leaveStop_23 : decode cX5_leaveStop 23 = .ok (.aload_n 0, 1) := by decide +kernel
theorem dX5_leaveStop_24 : decode cX5_leaveStop 24 = .ok (.iconst 0, 1) := by decide +kernel
theorem dX5_leaveStop_25 : decode cX5_leaveStop 25 = .ok (.putfield 37, 3) := by decide +kernel
theorem dX5_leaveStop_28 : decode cX5_leaveStop 28 = .ok (.return_, 1) := by decide +kernel
theorem dX5_moveOn_0 : decode cX5_moveOn 0 = .ok (.aload_n 0, 1) := by decide +kernel
theorem dX5_moveOn_1 : decode cX5_moveOn 1 = .ok (.getfield 40, 3) := by decide +kernel
theorem dX5_moveOn_4 : decode cX5_moveOn 4 = .ok (.ifCond .eq 9, 3) := by decide +kernel
theorem dX5_moveOn_7 : decode cX5_moveOn 7 = .ok (.aload_n 0, 1) := by decide +kernel
theorem dX5_moveOn_8 : decode cX5_moveOn 8 = .ok (.iconst 0, 1) := by decide +kernel
theorem dX5_moveOn_9 : decode cX5_moveOn 9 = .ok (.putfield 40, 3) := by decide +kernel
theorem dX5_moveOn_12 : decode cX5_moveOn 12 = .ok (.return_, 1) := by decide +kernel
theorem dX5_moveOn_13 : decode cX5_moveOn 13 = .ok (.aload_n 1, 1) := by decide +kernel
theorem dX5_moveOn_14 : decode cX5_moveOn 14 = .ok (.aload_n 0, 1) := by decide +kernel
theorem dX5_moveOn_15 : decode cX5_moveOn 15 = .ok (.getfield 9, 3) := by decide +kernel
theorem dX5_moveOn_18 : decode cX5_moveOn 18 = .ok (.invokevirtual 44, 3) := by decide +kernel
theorem dX5_moveOn_21 : decode cX5_moveOn 21 = .ok (.astore_n 3, 1) := by decide +kernel
theorem dX5_moveOn_22 : decode cX5_moveOn 22 = .ok (.aload_n 1, 1) := by decide +kernel
theorem dX5_moveOn_23 : decode cX5_moveOn 23 = .ok (.aload_n 1, 1) := by decide +kernel
theorem dX5_moveOn_24 : decode cX5_moveOn 24 = .ok (.aload_n 0, 1) := by decide +kernel
theorem dX5_moveOn_25 : decode cX5_moveOn 25 = .ok (.getfield 9, 3) := by decide +kernel
theorem dX5_moveOn_28 : decode cX5_moveOn 28 = .ok (.invokevirtual 50, 3) := by decide +kernel
theorem dX5_moveOn_31 : decode cX5_moveOn 31 = .ok (.invokevirtual 44, 3) := by decide +kernel
theorem dX5_moveOn_34 : decode cX5_moveOn 34 = .ok (.astore 4, 2) := by decide +kernel
theorem dX5_moveOn_36 : decode cX5_moveOn 36 = .ok (.aload_n 3, 1) := by decide +kernel
theorem dX5_moveOn_37 : decode cX5_moveOn 37 = .ok (.ifnull 8, 3) := by decide +kernel
theorem dX5_moveOn_40 : decode cX5_moveOn 40 = .ok (.aload 4, 2) := by decide +kernel
theorem dX5_moveOn_42 : decode cX5_moveOn 42 = .ok (.ifnonnull 4, 3) := by decide +kernel
theorem dX5_moveOn_45 : decode cX5_moveOn 45 = .ok (.return_, 1) := by decide +kernel
theorem dX5_moveOn_46 : decode cX5_moveOn 46 = .ok (.aload_n 3, 1) := by decide +kernel
theorem dX5_moveOn_47 : decode cX5_moveOn 47 = .ok (.aload_n 0, 1) := by decide +kernel
theorem dX5_moveOn_48 : decode cX5_moveOn 48 = .ok (.getfield 54, 3) := by decide +kernel
theorem dX5_moveOn_51 : decode cX5_moveOn 51 = .ok (.iload_n 2, 1) := by decide +kernel
theorem dX5_moveOn_52 : decode cX5_moveOn 52 = .ok (.invokevirtual 57, 3) := by decide +kernel
theorem dX5_moveOn_55 : decode cX5_moveOn 55 = .ok (.istore 5, 2) := by decide +kernel
theorem dX5_moveOn_57 : decode cX5_moveOn 57 = .ok (.iload 5, 2) := by decide +kernel
theorem dX5_moveOn_59 : decode cX5_moveOn 59 = .ok (.ifCond .ge 12, 3) := by decide +kernel
theorem dX5_moveOn_62 : decode cX5_moveOn 62 = .ok (.aload_n 0, 1) := by decide +kernel
theorem dX5_moveOn_63 : decode cX5_moveOn 63 = .ok (.bipush 120, 2) := by decide +kernel
theorem dX5_moveOn_65 : decode cX5_moveOn 65 = .ok (.putfield 15, 3) := by decide +kernel
theorem dX5_moveOn_68 : decode cX5_moveOn 68 = .ok (.goto 83, 3) := by decide +kernel
theorem dX5_moveOn_71 : decode cX5_moveOn 71 = .ok (.aload 4, 2) := by decide +kernel
theorem dX5_moveOn_73 : decode cX5_moveOn 73 = .ok (.invokevirtual 63, 3) := by decide +kernel
theorem dX5_moveOn_76 : decode cX5_moveOn 76 = .ok (.ifCond .eq 18, 3) := by decide +kernel
theorem dX5_moveOn_79 : decode cX5_moveOn 79 = .ok (.aload_n 0, 1) := by decide +kernel
theorem dX5_moveOn_80 : decode cX5_moveOn 80 = .ok (.aload_n 1, 1) := by decide +kernel
theorem dX5_moveOn_81 : decode cX5_moveOn 81 = .ok (.aload_n 0, 1) := by decide +kernel
theorem dX5_moveOn_82 : decode cX5_moveOn 82 = .ok (.getfield 9, 3) := by decide +kernel
theorem dX5_moveOn_85 : decode cX5_moveOn 85 = .ok (.invokevirtual 50, 3) := by decide +kernel
theorem dX5_moveOn_88 : decode cX5_moveOn 88 = .ok (.invokevirtual 67, 3) := by decide +kernel
theorem dX5_moveOn_91 : decode cX5_moveOn 91 = .ok (.goto 60, 3) := by decide +kernel
theorem dX5_moveOn_94 : decode cX5_moveOn 94 = .ok (.aload_n 0, 1) := by decide +kernel
theorem dX5_moveOn_95 : decode cX5_moveOn 95 = .ok (.aload_n 1, 1) := by decide +kernel
theorem dX5_moveOn_96 : decode cX5_moveOn 96 = .ok (.aload_n 0, 1) := by decide +kernel
theorem dX5_moveOn_97 : decode cX5_moveOn 97 = .ok (.getfield 9, 3) := by decide +kernel
theorem dX5_moveOn_100 : decode cX5_moveOn 100 = .ok (.invokevirtual 50, 3) := by decide +kernel
theorem dX5_moveOn_103 : decode cX5_moveOn 103 = .ok (.putfield 9, 3) := by decide +kernel
theorem dX5_moveOn_106 : decode cX5_moveOn 106 = .ok (.aload_n 0, 1) := by decide +kernel
theorem dX5_moveOn_107 : decode cX5_moveOn 107 = .ok (.iload 5, 2) := by decide +kernel
theorem dX5_moveOn_109 : decode cX5_moveOn 109 = .ok (.putfield 54, 3) := by decide +kernel
theorem dX5_moveOn_112 : decode cX5_moveOn 112 = .ok (.aload_n 0, 1) := by decide +kernel
theorem dX5_moveOn_113 : decode cX5_moveOn 113 = .ok (.aload 4, 2) := by decide +kernel
theorem dX5_moveOn_115 : decode cX5_moveOn 115 = .ok (.getfield 71, 3) := by decide +kernel
theorem dX5_moveOn_118 : decode cX5_moveOn 118 = .ok (.bipush 108, 2) := by decide +kernel
theorem dX5_moveOn_120 : decode cX5_moveOn 120 = .ok (.if_icmp .ne 7, 3) := by decide +kernel
theorem dX5_moveOn_123 : decode cX5_moveOn 123 = .ok (.iconst 1, 1) := by decide +kernel
theorem dX5_moveOn_124 : decode cX5_moveOn 124 = .ok (.goto 4, 3) := by decide +kernel
theorem dX5_moveOn_127 : decode cX5_moveOn 127 = .ok (.iconst 0, 1) := by decide +kernel
theorem dX5_moveOn_128 : decode cX5_moveOn 128 = .ok (.putfield 40, 3) := by decide +kernel
theorem dX5_moveOn_131 : decode cX5_moveOn 131 = .ok (.aload_n 0, 1) := by decide +kernel
theorem dX5_moveOn_132 : decode cX5_moveOn 132 = .ok (.aload_n 0, 1) := by decide +kernel
theorem dX5_moveOn_133 : decode cX5_moveOn 133 = .ok (.getfield 37, 3) := by decide +kernel
theorem dX5_moveOn_136 : decode cX5_moveOn 136 = .ok (.aload 4, 2) := by decide +kernel
theorem dX5_moveOn_138 : decode cX5_moveOn 138 = .ok (.aload_n 0, 1) := by decide +kernel
theorem dX5_moveOn_139 : decode cX5_moveOn 139 = .ok (.getfield 54, 3) := by decide +kernel
theorem dX5_moveOn_142 : decode cX5_moveOn 142 = .ok (.invokevirtual 74, 3) := by decide +kernel
theorem dX5_moveOn_145 : decode cX5_moveOn 145 = .ok (.invokestatic 77, 3) := by decide +kernel
theorem dX5_moveOn_148 : decode cX5_moveOn 148 = .ok (.putfield 37, 3) := by decide +kernel
theorem dX5_moveOn_151 : decode cX5_moveOn 151 = .ok (.return_, 1) := by decide +kernel
theorem dX5_standIn_0 : decode cX5_standIn 0 = .ok (.aload_n 0, 1) := by decide +kernel
theorem dX5_standIn_1 : decode cX5_standIn 1 = .ok (.iload_n 1, 1) := by decide +kernel
theorem dX5_standIn_2 : decode cX5_standIn 2 = .ok (.putfield 9, 3) := by decide +kernel
theorem dX5_standIn_5 : decode cX5_standIn 5 = .ok (.aload_n 0, 1) := by decide +kernel
theorem dX5_standIn_6 : decode cX5_standIn 6 = .ok (.iconst 0, 1) := by decide +kernel
theorem dX5_standIn_7 : decode cX5_standIn 7 = .ok (.putfield 54, 3) := by decide +kernel
theorem dX5_standIn_10 : decode cX5_standIn 10 = .ok (.aload_n 0, 1) := by decide +kernel
theorem dX5_standIn_11 : decode cX5_standIn 11 = .ok (.bipush 115, 2) := by decide +kernel
theorem dX5_standIn_13 : decode cX5_standIn 13 = .ok (.putfield 15, 3) := by decide +kernel
theorem dX5_standIn_16 : decode cX5_standIn 16 = .ok (.aload_n 0, 1) := by decide +kernel
theorem dX5_standIn_17 : decode cX5_standIn 17 = .ok (.iconst 1, 1) := by decide +kernel
theorem dX5_standIn_18 : decode cX5_standIn 18 = .ok (.iload_n 1, 1) := by decide +kernel
theorem dX5_standIn_19 : decode cX5_standIn 19 = .ok (.ishl, 1) := by decide +kernel
theorem dX5_standIn_20 : decode cX5_standIn 20 = .ok (.putfield 19, 3) := by decide +kernel
theorem dX5_standIn_23 : decode cX5_standIn 23 = .ok (.iload_n 1, 1) := by decide +kernel
theorem dX5_standIn_24 : decode cX5_standIn 24 = .ok (.ifCond .ne 7, 3) := by decide +kernel
theorem dX5_standIn_27 : decode cX5_standIn 27 = .ok (.aload_n 0, 1) := by decide +kernel
theorem dX5_standIn_28 : decode cX5_standIn 28 = .ok (.invokevirtual 82, 3) := by decide +kernel
theorem dX5_standIn_31 : decode cX5_standIn 31 = .ok (.return_, 1) := by decide +kernel
theorem dX5_letRidersOut_0 : decode cX5_letRidersOut 0 = .ok (.iconst 0, 1) := by decide +kernel
theorem dX5_letRidersOut_1 : decode cX5_letRidersOut 1 = .ok (.istore_n 1, 1) := by decide +kernel
theorem dX5_letRidersOut_2 : decode cX5_letRidersOut 2 = .ok (.iload_n 1, 1) := by decide +kernel
theorem dX5_letRidersOut_3 : decode cX5_letRidersOut 3 = .ok (.aload_n 0, 1) := by decide +kernel
theorem dX5_letRidersOut_4 : decode cX5_letRidersOut 4 = .ok (.getfield 27, 3) := by decide +kernel
theorem dX5_letRidersOut_7 : decode cX5_letRidersOut 7 = .ok (.arraylength, 1) := by decide +kernel
theorem dX5_letRidersOut_8 : decode cX5_letRidersOut 8 = .ok (.if_icmp .ge 35, 3) := by decide +kernel
theorem dX5_letRidersOut_11 : decode cX5_letRidersOut 11 = .ok (.aload_n 0, 1) := by decide +kernel
theorem dX5_letRidersOut_12 : decode cX5_letRidersOut 12 = .ok (.getfield 27, 3) := by decide +kernel
theorem dX5_letRidersOut_15 : decode cX5_letRidersOut 15 = .ok (.iload_n 1, 1) := by decide +kernel
theorem dX5_letRidersOut_16 : decode cX5_letRidersOut 16 = .ok (.aaload, 1) := by decide +kernel
theorem dX5_letRidersOut_17 : decode cX5_letRidersOut 17 = .ok (.astore_n 2, 1) := by decide +kernel
theorem dX5_letRidersOut_18 : decode cX5_letRidersOut 18 = .ok (.aload_n 2, 1) := by decide +kernel
theorem dX5_letRidersOut_19 : decode cX5_letRidersOut 19 = .ok (.ifnull 11, 3) := by decide +kernel
theorem dX5_letRidersOut_22 : decode cX5_letRidersOut 22 = .ok (.aload_n 2, 1) := by decide +kernel
theorem dX5_letRidersOut_23 : decode cX5_letRidersOut 23 = .ok (.aload_n 0, 1) := by decide +kernel
theorem dX5_letRidersOut_24 : decode cX5_letRidersOut 24 = .ok (.getfield 37, 3) := by decide +kernel
theorem dX5_letRidersOut_27 : decode cX5_letRidersOut 27 = .ok (.invokevirtual 85, 3) := by decide +kernel
theorem dX5_letRidersOut_30 : decode cX5_letRidersOut 30 = .ok (.aload_n 0, 1) := by decide +kernel
theorem dX5_letRidersOut_31 : decode cX5_letRidersOut 31 = .ok (.getfield 27, 3) := by decide +kernel
theorem dX5_letRidersOut_34 : decode cX5_letRidersOut 34 = .ok (.iload_n 1, 1) := by decide +kernel
theorem dX5_letRidersOut_35 : decode cX5_letRidersOut 35 = .ok (.aconst_null, 1) := by decide +kernel
theorem dX5_letRidersOut_36 : decode cX5_letRidersOut 36 = .ok (.aastore, 1) := by decide +kernel
theorem dX5_letRidersOut_37 : decode cX5_letRidersOut 37 = .ok (.iinc 1 1, 3) := by decide +kernel
theorem dX5_letRidersOut_40 : decode cX5_letRidersOut 40 = .ok (.goto (-38), 3) := by decide +kernel
theorem dX5_letRidersOut_43 : decode cX5_letRidersOut 43 = .ok (.aload_n 0, 1) := by decide +kernel
theorem dX5_letRidersOut_44 : decode cX5_letRidersOut 44 = .ok (.iconst 0, 1) := by decide +kernel
theorem dX5_letRidersOut_45 : decode cX5_letRidersOut 45 = .ok (.putfield 31, 3) := by decide +kernel
theorem dX5_letRidersOut_48 : decode cX5_letRidersOut 48 = .ok (.return_, 1) := by decide +kernel
theorem dX5_countOf_0 : decode cX5_countOf 0 = .ok (.iconst 0, 1) := by decide +kernel
theorem dX5_countOf_1 : decode cX5_countOf 1 = .ok (.istore_n 2, 1) := by decide +kernel
theorem dX5_countOf_2 : decode cX5_countOf 2 = .ok (.iconst 0, 1) := by decide +kernel
theorem dX5_countOf_3 : decode cX5_countOf 3 = .ok (.istore_n 3, 1) := by decide +kernel
theorem dX5_countOf_4 : decode cX5_countOf 4 = .ok (.iload_n 3, 1) := by decide +kernel
theorem dX5_countOf_5 : decode cX5_countOf 5 = .ok (.aload_n 0, 1) := by decide +kernel
theorem dX5_countOf_6 : decode cX5_countOf 6 = .ok (.getfield 31, 3) := by decide +kernel
theorem dX5_countOf_9 : decode cX5_countOf 9 = .ok (.if_icmp .ge 31, 3) := by decide +kernel
theorem dX5_countOf_12 : decode cX5_countOf 12 = .ok (.iload_n 3, 1) := by decide +kernel
theorem dX5_countOf_13 : decode cX5_countOf 13 = .ok (.aload_n 0, 1) := by decide +kernel
theorem dX5_countOf_14 : decode cX5_countOf 14 = .ok (.getfield 27, 3) := by decide +kernel
theorem dX5_countOf_17 : decode cX5_countOf 17 = .ok (.arraylength, 1) := by decide +kernel
theorem dX5_countOf_18 : decode cX5_countOf 18 = .ok (.if_icmp .ge 22, 3) := by decide +kernel
theorem dX5_countOf_21 : decode cX5_countOf 21 = .ok (.aload_n 0, 1) := by decide +kernel
theorem dX5_countOf_22 : decode cX5_countOf 22 = .ok (.getfield 27, 3) := by decide +kernel
theorem dX5_countOf_25 : decode cX5_countOf 25 = .ok (.iload_n 3, 1) := by decide +kernel
theorem dX5_countOf_26 : decode cX5_countOf 26 = .ok (.aaload, 1) := by decide +kernel
theorem dX5_countOf_27 : decode cX5_countOf 27 = .ok (.aload_n 1, 1) := by decide +kernel
theorem dX5_countOf_28 : decode cX5_countOf 28 = .ok (.if_acmp .ne 6, 3) := by decide +kernel
theorem dX5_countOf_31 : decode cX5_countOf 31 = .ok (.iinc 2 1, 3) := by decide +kernel
theorem dX5_countOf_34 : decode cX5_countOf 34 = .ok (.iinc 3 1, 3) := by decide +kernel
theorem dX5_countOf_37 : decode cX5_countOf 37 = .ok (.goto (-33), 3) := by decide +kernel
theorem dX5_countOf_40 : decode cX5_countOf 40 = .ok (.iload_n 2, 1) := by decide +kernel
theorem dX5_countOf_41 : decode cX5_countOf 41 = .ok (.ireturn, 1) := by decide +kernel
theorem dX6_init_0 : decode cX6_init 0 = .ok (.aload_n 0, 1) := by decide +kernel
theorem dX6_init_1 : decode cX6_init 1 = .ok (.invokespecial 1, 3) := by decide +kernel
theorem dX6_init_4 : decode cX6_init 4 = .ok (.aload_n 0, 1) := by decide +kernel
theorem dX6_init_5 : decode cX6_init 5 = .ok (.iconst 4, 1) := by decide +kernel
theorem dX6_init_6 : decode cX6_init 6 = .ok (.anewarray 9, 3) := by decide +kernel
theorem dX6_init_9 : decode cX6_init 9 = .ok (.putfield 11, 3) := by decide +kernel
theorem dX6_init_12 : decode cX6_init 12 = .ok (.aload_n 0, 1) := by decide +kernel
theorem dX6_init_13 : decode cX6_init 13 = .ok (.bipush 8, 2) := by decide +kernel
theorem dX6_init_15 : decode cX6_init 15 = .ok (.newarray .int, 2) := by decide +kernel
theorem dX6_init_17 : decode cX6_init 17 = .ok (.putfield 15, 3) := by decide +kernel
theorem dX6_init_20 : decode cX6_init 20 = .ok (.aload_n 0, 1) := by decide +kernel
theorem dX6_init_21 : decode cX6_init 21 = .ok (.bipush 60, 2) := by decide +kernel
theorem dX6_init_23 : decode cX6_init 23 = .ok (.anewarray 19, 3) := by decide +kernel
theorem dX6_init_26 : decode cX6_init 26 = .ok (.putfield 21, 3) := by decide +kernel
theorem dX6_init_29 : decode cX6_init 29 = .ok (.return_, 1) := by decide +kernel
theorem dX6_addRide_0 : decode cX6_addRide 0 = .ok (.iload_n 1, 1) := by decide +kernel
theorem dX6_addRide_1 : decode cX6_addRide 1 = .ok (.iconst 0, 1) := by decide +kernel
theorem dX6_addRide_2 : decode cX6_addRide 2 = .ok (.sipush 250, 3) := by decide +kernel
theorem dX6_addRide_5 : decode cX6_addRide 5 = .ok (.invokestatic 25, 3) := by decide +kernel
theorem dX6_addRide_8 : decode cX6_addRide 8 = .ok (.ifCond .eq 23, 3) := by decide +kernel
theorem dX6_addRide_11 : decode cX6_addRide 11 = .ok (.iload_n 2, 1) := by decide +kernel
theorem dX6_addRide_12 : decode cX6_addRide 12 = .ok (.iconst 0, 1) := by decide +kernel
theorem dX6_addRide_13 : decode cX6_addRide 13 = .ok (.bipush 40, 2) := by decide +kernel
theorem dX6_addRide_15 : decode cX6_addRide 15 = .ok (.invokestatic 25, 3) := by decide +kernel
theorem dX6_addRide_18 : decode cX6_addRide 18 = .ok (.ifCond .eq 13, 3) := by decide +kernel
theorem dX6_addRide_21 : decode cX6_addRide 21 = .ok (.iload_n 3, 1) := by decide +kernel
theorem dX6_addRide_22 : decode cX6_addRide 22 = .ok (.iconst 0, 1) := by decide +kernel
theorem dX6_addRide_23 : decode cX6_addRide 23 = .ok (.bipush 99, 2) := by decide +kernel
theorem dX6_addRide_25 : decode cX6_addRide 25 = .ok (.invokestatic 25, 3) := by decide +kernel
theorem dX6_addRide_28 : decode cX6_addRide 28 = .ok (.ifCond .ne 13, 3) := by decide +kernel
theorem dX6_addRide_31 : decode cX6_addRide 31 = .ok (.new 29, 3) := by decide +kernel
theorem dX6_addRide_34 : decode cX6_addRide 34 = .ok (.dup, 1) := by decide +kernel
theorem dX6_addRide_35 : decode cX6_addRide 35 = .ok (.ldc 31, 2) := by decide +kernel
theorem dX6_addRide_37 : decode cX6_addRide 37 = .ok (.invokespecial 33, 3) := by decide +kernel
theorem dX6_addRide_40 : decode cX6_addRide 40 = .ok (.athrow, 1) := by decide +kernel
theorem dX6_addRide_41 : decode cX6_addRide 41 = .ok (.aload_n 0, 1) := by decide +kernel
theorem dX6_addRide_42 : decode cX6_addRide 42 = .ok (.getfield 36, 3) := by decide +kernel
theorem dX6_addRide_45 : decode cX6_addRide 45 = .ok (.ifCond .lt 15, 3) := by decide +kernel
theorem dX6_addRide_48 : decode cX6_addRide 48 = .ok (.aload_n 0, 1) := by decide +kernel
theorem dX6_addRide_49 : decode cX6_addRide 49 = .ok (.getfield 36, 3) := by decide +kernel
theorem dX6_addRide_52 : decode cX6_addRide 52 = .ok (.aload_n 0, 1) := by decide +kernel
theorem dX6_addRide_53 : decode cX6_addRide 53 = .ok (.getfield 11, 3) := by decide +kernel
theorem dX6_addRide_56 : decode cX6_addRide 56 = .ok (.arraylength, 1) := by decide +kernel
theorem dX6_addRide_57 : decode cX6_addRide 57 = .ok (.if_icmp .lt 13, 3) := by decide +kernel
theorem dX6_addRide_60 : decode cX6_addRide 60 = .ok (.new 40, 3) := by decide +kernel
theorem dX6_addRide_63 : decode cX6_addRide 63 = .ok (.dup, 1) := by decide +kernel
theorem dX6_addRide_64 : decode cX6_addRide 64 = .ok (.ldc 42, 2) := by decide +kernel
theorem dX6_addRide_66 : decode cX6_addRide 66 = .ok (.invokespecial 44, 3) := by decide +kernel
theorem dX6_addRide_69 : decode cX6_addRide 69 = .ok (.athrow, 1) := by decide +kernel
theorem dX6_addRide_70 : decode cX6_addRide 70 = .ok (.aload_n 0, 1) := by decide +kernel
theorem dX6_addRide_71 : decode cX6_addRide 71 = .ok (.getfield 11, 3) := by decide +kernel
theorem dX6_addRide_74 : decode cX6_addRide 74 = .ok (.aload_n 0, 1) := by decide +kernel
theorem dX6_addRide_75 : decode cX6_addRide 75 = .ok (.getfield 36, 3) := by decide +kernel
theorem dX6_addRide_78 : decode cX6_addRide 78 = .ok (.new 9, 3) := by decide +kernel
theorem dX6_addRide_81 : decode cX6_addRide 81 = .ok (.dup, 1) := by decide +kernel
theorem dX6_addRide_82 : decode cX6_addRide 82 = .ok (.iload_n 1, 1) := by decide +kernel
theorem dX6_addRide_83 : decode cX6_addRide 83 = .ok (.iload_n 2, 1) := by decide +kernel
theorem dX6_addRide_84 : decode cX6_addRide 84 = .ok (.iload_n 3, 1) := by decide +kernel
theorem dX6_addRide_85 : decode cX6_addRide 85 = .ok (.invokespecial 45, 3) := by decide +kernel
theorem dX6_addRide_88 : decode cX6_addRide 88 = .ok (.aastore, 1) := by decide +kernel
theorem dX6_addRide_89 : decode cX6_addRide 89 = .ok (.aload_n 0, 1) := by decide +kernel
theorem dX6_addRide_90 : decode cX6_addRide 90 = .ok (.dup, 1) := by decide +kernel
theorem dX6_addRide_91 : decode cX6_addRide 91 = .ok (.getfield 36, 3) := by decide +kernel
theorem dX6_addRide_94 : decode cX6_addRide 94 = .ok (.iconst 1, 1) := by decide +kernel
theorem dX6_addRide_95 : decode cX6_addRide 95 = .ok (.iadd, 1) := by decide +kernel
theorem dX6_addRide_96 : decode cX6_addRide 96 = .ok (.putfield 36, 3) := by decide +kernel
theorem dX6_addRide_99 : decode cX6_addRide 99 = .ok (.aload_n 0, 1) := by decide +kernel
theorem dX6_addRide_100 : decode cX6_addRide 100 = .ok (.getfield 36, 3) := by decide +kernel
theorem dX6_addRide_103 : decode cX6_addRide 103 = .ok (.iconst 1, 1) := by decide +kernel
theorem dX6_addRide_104 : decode cX6_addRide 104 = .ok (.isub, 1) := by decide +kernel
theorem dX6_addRide_105 : decode cX6_addRide 105 = .ok (.ireturn, 1) := by decide +kernel
theorem dX6_addBlock_0 : decode cX6_addBlock 0 = .ok (.aload_n 0, 1) := by decide +kernel
theorem dX6_addBlock_1 : decode cX6_addBlock 1 = .ok (.iload_n 1, 1) := by decide +kernel
theorem dX6_addBlock_2 : decode cX6_addBlock 2 = .ok (.invokevirtual 48, 3) := by decide +kernel
theorem dX6_addBlock_5 : decode cX6_addBlock 5 = .ok (.getfield 52, 3) := by decide +kernel
theorem dX6_addBlock_8 : decode cX6_addBlock 8 = .ok (.astore 6, 2) := by decide +kernel
theorem dX6_addBlock_10 : decode cX6_addBlock 10 = .ok (.iload_n 2, 1) := by decide +kernel
theorem dX6_addBlock_11 : decode cX6_addBlock 11 = .ok (.iload_n 3, 1) := by decide +kernel
theorem dX6_addBlock_12 : decode cX6_addBlock 12 = .ok (.iload 4, 2) := by decide +kernel
theorem dX6_addBlock_14 : decode cX6_addBlock 14 = .ok (.iload 5, 2) := by decide +kernel
theorem dX6_addBlock_16 : decode cX6_addBlock 16 = .ok (.invokestatic 56, 3) := by decide +kernel
theorem dX6_addBlock_19 : decode cX6_addBlock 19 = .ok (.ifCond .ne 13, 3) := by decide +kernel
theorem dX6_addBlock_22 : decode cX6_addBlock 22 = .ok (.new 29, 3) := by decide +kernel
theorem dX6_addBlock_25 : decode cX6_addBlock 25 = .ok (.dup, 1) := by decide +kernel
theorem dX6_addBlock_26 : decode cX6_addBlock 26 = .ok (.ldc 60, 2) := by decide +kernel
theorem dX6_addBlock_28 : decode cX6_addBlock 28 = .ok (.invokespecial 33, 3) := by decide +kernel
theorem dX6_addBlock_31 : decode cX6_addBlock 31 = .ok (.athrow, 1) := by decide +kernel
theorem dX6_addBlock_32 : decode cX6_addBlock 32 = .ok (.aload 6, 2) := by decide +kernel
theorem dX6_addBlock_34 : decode cX6_addBlock 34 = .ok (.getfield 62, 3) := by decide +kernel
theorem dX6_addBlock_37 : decode cX6_addBlock 37 = .ok (.ifCond .eq 13, 3) := by decide +kernel
theorem dX6_addBlock_40 : decode cX6_addBlock 40 = .ok (.new 68, 3) := by decide +kernel
theorem dX6_addBlock_43 : decode cX6_addBlock 43 = .ok (.dup, 1) := by decide +kernel
theorem dX6_addBlock_44 : decode cX6_addBlock 44 = .ok (.ldc 70, 2) := by decide +kernel
theorem dX6_addBlock_46 : decode cX6_addBlock 46 = .ok (.invokespecial 72, 3) := by decide +kernel
theorem dX6_addBlock_49 : decode cX6_addBlock 49 = .ok (.athrow, 1) := by decide +kernel
theorem dX6_addBlock_50 : decode cX6_addBlock 50 = .ok (.aload 6, 2) := by decide +kernel
theorem dX6_addBlock_52 : decode cX6_addBlock 52 = .ok (.getfield 73, 3) := by decide +kernel
theorem dX6_addBlock_55 : decode cX6_addBlock 55 = .ok (.bipush 12, 2) := by decide +kernel
theorem dX6_addBlock_57 : decode cX6_addBlock 57 = .ok (.if_icmp .lt 13, 3) := by decide +kernel
theorem dX6_addBlock_60 : decode cX6_addBlock 60 = .ok (.new 40, 3) := by decide +kernel
theorem dX6_addBlock_63 : decode cX6_addBlock 63 = .ok (.dup, 1) := by decide +kernel
theorem dX6_addBlock_64 : decode cX6_addBlock 64 = .ok (.ldc 76, 2) := by decide +kernel
theorem dX6_addBlock_66 : decode cX6_addBlock 66 = .ok (.invokespecial 44, 3) := by decide +kernel
theorem dX6_addBlock_69 : decode cX6_addBlock 69 = .ok (.athrow, 1) := by decide +kernel
theorem dX6_addBlock_70 : decode cX6_addBlock 70 = .ok (.aload 6, 2) := by decide +kernel
theorem dX6_addBlock_72 : decode cX6_addBlock 72 = .ok (.new 78, 3) := by decide +kernel
theorem dX6_addBlock_75 : decode cX6_addBlock 75 = .ok (.dup, 1) := by decide +kernel
theorem dX6_addBlock_76 : decode cX6_addBlock 76 = .ok (.iload_n 2, 1) := by decide +kernel
theorem dX6_addBlock_77 : decode cX6_addBlock 77 = .ok (.iload_n 3, 1) := by decide +kernel
theorem dX6_addBlock_78 : decode cX6_addBlock 78 = .ok (.iload 4, 2) := by decide +kernel
theorem dX6_addBlock_80 : decode cX6_addBlock 80 = .ok (.iload 5, 2) := by decide +kernel
theorem dX6_addBlock_82 : decode cX6_addBlock 82 = .ok (.invokespecial 80, 3) := by decide +kernel
theorem dX6_addBlock_85 : decode cX6_addBlock 85 = .ok (.invokevirtual 83, 3) := by decide +kernel
theorem dX6_addBlock_88 : decode cX6_addBlock 88 = .ok (.ireturn, 1) := by decide +kernel
theorem dX6_close_0 : decode cX6_close 0 = .ok (.aload_n 0, 1) := by decide +kernel
theorem dX6_close_1 : decode cX6_close 1 = .ok (.iload_n 1, 1) := by decide +kernel
theorem dX6_close_2 : decode cX6_close 2 = .ok (.invokevirtual 48, 3) := by decide +kernel
theorem dX6_close_5 : decode cX6_close 5 = .ok (.getfield 52, 3) := by decide +kernel
theorem dX6_close_8 : decode cX6_close 8 = .ok (.astore_n 2, 1) := by decide +kernel
theorem dX6_close_9 : decode cX6_close 9 = .ok (.aload_n 2, 1) := by decide +kernel
theorem dX6_close_10 : decode cX6_close 10 = .ok (.getfield 62, 3) := by decide +kernel
theorem dX6_close_13 : decode cX6_close 13 = .ok (.ifCond .ne 10, 3) := by decide +kernel
theorem dX6_close_16 : decode cX6_close 16 = .ok (.aload_n 2, 1) := by decide +kernel
theorem dX6_close_17 : decode cX6_close 17 = .ok (.invokevirtual 87, 3) := by decide +kernel
theorem dX6_close_20 : decode cX6_close 20 = .ok (.ifCond .ne 13, 3) := by decide +kernel
theorem dX6_close_23 : decode cX6_close 23 = .ok (.new 68, 3) := by decide +kernel
theorem dX6_close_26 : decode cX6_close 26 = .ok (.dup, 1) := by decide +kernel
theorem dX6_close_27 : decode cX6_close 27 = .ok (.ldc 91, 2) := by decide +kernel
theorem dX6_close_29 : decode cX6_close 29 = .ok (.invokespecial 72, 3) := by decide +kernel
theorem dX6_close_32 : decode cX6_close 32 = .ok (.athrow, 1) := by decide +kernel
theorem dX6_close_33 : decode cX6_close 33 = .ok (.aload_n 2, 1) := by decide +kernel
theorem dX6_close_34 : decode cX6_close 34 = .ok (.iconst 1, 1) := by decide +kernel
theorem dX6_close_35 : decode cX6_close 35 = .ok (.putfield 62, 3) := by decide +kernel
theorem dX6_close_38 : decode cX6_close 38 = .ok (.aload_n 2, 1) := by decide +kernel
theorem dX6_close_39 : decode cX6_close 39 = .ok (.invokevirtual 93, 3) := by decide +kernel
theorem dX6_close_42 : decode cX6_close 42 = .ok (.ireturn, 1) := by decide +kernel
theorem dX6_addTrain_0 : decode cX6_addTrain 0 = .ok (.aload_n 0, 1) := by decide +kernel
theorem dX6_addTrain_1 : decode cX6_addTrain 1 = .ok (.iload_n 1, 1) := by decide +kernel
theorem dX6_addTrain_2 : decode cX6_addTrain 2 = .ok (.invokevirtual 48, 3) := by decide +kernel
theorem dX6_addTrain_5 : decode cX6_addTrain 5 = .ok (.astore_n 3, 1) := by decide +kernel
theorem dX6_addTrain_6 : decode cX6_addTrain 6 = .ok (.iload_n 2, 1) := by decide +kernel
theorem dX6_addTrain_7 : decode cX6_addTrain 7 = .ok (.iconst 1, 1) := by decide +kernel
theorem dX6_addTrain_8 : decode cX6_addTrain 8 = .ok (.bipush 8, 2) := by decide +kernel
theorem dX6_addTrain_10 : decode cX6_addTrain 10 = .ok (.invokestatic 25, 3) := by decide +kernel
theorem dX6_addTrain_13 : decode cX6_addTrain 13 = .ok (.ifCond .ne 13, 3) := by decide +kernel
theorem dX6_addTrain_16 : decode cX6_addTrain 16 = .ok (.new 29, 3) := by decide +kernel
theorem dX6_addTrain_19 : decode cX6_addTrain 19 = .ok (.dup, 1) := by decide +kernel
theorem dX6_addTrain_20 : decode cX6_addTrain 20 = .ok (.ldc 97, 2) := by decide +kernel
theorem dX6_addTrain_22 : decode cX6_addTrain 22 = .ok (.invokespecial 33, 3) := by decide +kernel
theorem dX6_addTrain_25 : decode cX6_addTrain 25 = .ok (.athrow, 1) := by decide +kernel
theorem dX6_addTrain_26 : decode cX6_addTrain 26 = .ok (.aload_n 3, 1) := by decide +kernel
theorem dX6_addTrain_27 : decode cX6_addTrain 27 = .ok (.getfield 52, 3) := by decide +kernel
theorem dX6_addTrain_30 : decode cX6_addTrain 30 = .ok (.getfield 62, 3) := by decide +kernel
theorem dX6_addTrain_33 : decode cX6_addTrain 33 = .ok (.ifCond .eq 11, 3) := by decide +kernel
theorem dX6_addTrain_36 : decode cX6_addTrain 36 = .ok (.aload_n 3, 1) := by decide +kernel
theorem dX6_addTrain_37 : decode cX6_addTrain 37 = .ok (.iconst 0, 1) := by decide +kernel
theorem dX6_addTrain_38 : decode cX6_addTrain 38 = .ok (.invokevirtual 99, 3) := by decide +kernel
theorem dX6_addTrain_41 : decode cX6_addTrain 41 = .ok (.ifCond .eq 13, 3) := by decide +kernel
theorem dX6_addTrain_44 : decode cX6_addTrain 44 = .ok (.new 68, 3) := by decide +kernel
theorem dX6_addTrain_47 : decode cX6_addTrain 47 = .ok (.dup, 1) := by decide +kernel
theorem dX6_addTrain_48 : decode cX6_addTrain 48 = .ok (.ldc 103, 2) := by decide +kernel
theorem dX6_addTrain_50 : decode cX6_addTrain 50 = .ok (.invokespecial 72, 3) := by decide +kernel
theorem dX6_addTrain_53 : decode cX6_addTrain 53 = .ok (.athrow, 1) := by decide +kernel
theorem dX6_addTrain_54 : decode cX6_addTrain 54 = .ok (.aload_n 3, 1) := by decide +kernel
theorem dX6_addTrain_55 : decode cX6_addTrain 55 = .ok (.getfield 105, 3) := by decide +kernel
theorem dX6_addTrain_58 : decode cX6_addTrain 58 = .ok (.iconst 4, 1) := by decide +kernel
theorem dX6_addTrain_59 : decode cX6_addTrain 59 = .ok (.if_icmp .lt 13, 3) := by decide +kernel
theorem dX6_addTrain_62 : decode cX6_addTrain 62 = .ok (.new 40, 3) := by decide +kernel
theorem dX6_addTrain_65 : decode cX6_addTrain 65 = .ok (.dup, 1) := by decide +kernel
theorem dX6_addTrain_66 : decode cX6_addTrain 66 = .ok (.ldc 108, 2) := by decide +kernel
theorem dX6_addTrain_68 : decode cX6_addTrain 68 = .ok (.invokespecial 44, 3) := by decide +kernel
theorem dX6_addTrain_71 : decode cX6_addTrain 71 = .ok (.athrow, 1) := by decide +kernel
theorem dX6_addTrain_72 : decode cX6_addTrain 72 = .ok (.aload_n 3, 1) := by decide +kernel
theorem dX6_addTrain_73 : decode cX6_addTrain 73 = .ok (.new 110, 3) := by decide +kernel
theorem dX6_addTrain_76 : decode cX6_addTrain 76 = .ok (.dup, 1) := by decide +kernel
theorem dX6_addTrain_77 : decode cX6_addTrain 77 = .ok (.iload_n 2, 1) := by decide +kernel
theorem dX6_addTrain_78 : decode cX6_addTrain 78 = .ok (.invokespecial 112, 3) := by decide +kernel
theorem dX6_addTrain_81 : decode cX6_addTrain 81 = .ok (.invokevirtual 115, 3) := by decide +kernel
theorem dX6_addTrain_84 : decode cX6_addTrain 84 = .ok (.istore 4, 2) := by decide +kernel
theorem dX6_addTrain_86 : decode cX6_addTrain 86 = .ok (.aload_n 3, 1) := by decide +kernel
theorem dX6_addTrain_87 : decode cX6_addTrain 87 = .ok (.invokevirtual 119, 3) := by decide +kernel
theorem dX6_addTrain_90 : decode cX6_addTrain 90 = .ok (.iload 4, 2) := by decide +kernel
theorem dX6_addTrain_92 : decode cX6_addTrain 92 = .ok (.ireturn, 1) := by decide +kernel
theorem dX6_addStaff_0 : decode cX6_addStaff 0 = .ok (.iload_n 1, 1) := by decide +kernel
theorem dX6_addStaff_1 : decode cX6_addStaff 1 = .ok (.iconst 0, 1) := by decide +kernel
theorem dX6_addStaff_2 : decode cX6_addStaff 2 = .ok (.bipush 15, 2) := by decide +kernel
theorem dX6_addStaff_4 : decode cX6_addStaff 4 = .ok (.invokestatic 25, 3) := by decide +kernel
theorem dX6_addStaff_7 : decode cX6_addStaff 7 = .ok (.ifCond .ne 13, 3) := by decide +kernel
theorem dX6_addStaff_10 : decode cX6_addStaff 10 = .ok (.new 29, 3) := by decide +kernel
theorem dX6_addStaff_13 : decode cX6_addStaff 13 = .ok (.dup, 1) := by decide +kernel
theorem dX6_addStaff_14 : decode cX6_addStaff 14 = .ok (.ldc 122, 2) := by decide +kernel
theorem dX6_addStaff_16 : decode cX6_addStaff 16 = .ok (.invokespecial 33, 3) := by decide +kernel
theorem dX6_addStaff_19 : decode cX6_addStaff 19 = .ok (.athrow, 1) := by decide +kernel
theorem dX6_addStaff_20 : decode cX6_addStaff 20 = .ok (.aload_n 0, 1) := by decide +kernel
theorem dX6_addStaff_21 : decode cX6_addStaff 21 = .ok (.getfield 124, 3) := by decide +kernel
theorem dX6_addStaff_24 : decode cX6_addStaff 24 = .ok (.ifCond .lt 15, 3) := by decide +kernel
theorem dX6_addStaff_27 : decode cX6_addStaff 27 = .ok (.aload_n 0, 1) := by decide +kernel
theorem dX6_addStaff_28 : decode cX6_addStaff 28 = .ok (.getfield 124, 3) := by decide +kernel
theorem dX6_addStaff_31 : decode cX6_addStaff 31 = .ok (.aload_n 0, 1) := by decide +kernel
theorem dX6_addStaff_32 : decode cX6_addStaff 32 = .ok (.getfield 15, 3) := by decide +kernel
theorem dX6_addStaff_35 : decode cX6_addStaff 35 = .ok (.arraylength, 1) := by decide +kernel
theorem dX6_addStaff_36 : decode cX6_addStaff 36 = .ok (.if_icmp .lt 13, 3) := by decide +kernel
theorem dX6_addStaff_39 : decode cX6_addStaff 39 = .ok (.new 40, 3) := by decide +kernel
theorem dX6_addStaff_42 : decode cX6_addStaff 42 = .ok (.dup, 1) := by decide +kernel
theorem dX6_addStaff_43 : decode cX6_addStaff 43 = .ok (.ldc 127, 2) := by decide +kernel
theorem dX6_addStaff_45 : decode cX6_addStaff 45 = .ok (.invokespecial 44, 3) := by decide +kernel
theorem dX6_addStaff_48 : decode cX6_addStaff 48 = .ok (.athrow, 1) := by decide +kernel
theorem dX6_addStaff_49 : decode cX6_addStaff 49 = .ok (.aload_n 0, 1) := by decide +kernel
theorem dX6_addStaff_50 : decode cX6_addStaff 50 = .ok (.getfield 15, 3) := by decide +kernel
theorem dX6_addStaff_53 : decode cX6_addStaff 53 = .ok (.aload_n 0, 1) := by decide +kernel
theorem dX6_addStaff_54 : decode cX6_addStaff 54 = .ok (.getfield 124, 3) := by decide +kernel
theorem dX6_addStaff_57 : decode cX6_addStaff 57 = .ok (.iload_n 1, 1) := by decide +kernel
theorem dX6_addStaff_58 : decode cX6_addStaff 58 = .ok (.iastore, 1) := by decide +kernel
theorem dX6_addStaff_59 : decode cX6_addStaff 59 = .ok (.aload_n 0, 1) := by decide +kernel
theorem dX6_addStaff_60 : decode cX6_addStaff 60 = .ok (.dup, 1) := by decide +kernel
theorem dX6_addStaff_61 : decode cX6_addStaff 61 = .ok (.getfield 124, 3) := by decide +kernel
theorem dX6_addStaff_64 : decode cX6_addStaff 64 = .ok (.iconst 1, 1) := by decide +kernel
theorem dX6_addStaff_65 : decode cX6_addStaff 65 = .ok (.iadd, 1) := by decide +kernel
theorem dX6_addStaff_66 : decode cX6_addStaff 66 = .ok (.putfield 124, 3) := by decide +kernel
theorem dX6_addStaff_69 : decode cX6_addStaff 69 = .ok (.aload_n 0, 1) := by decide +kernel
theorem dX6_addStaff_70 : decode cX6_addStaff 70 = .ok (.getfield 124, 3) := by decide +kernel
theorem dX6_addStaff_73 : decode cX6_addStaff 73 = .ok (.iconst 1, 1) := by decide +kernel
theorem dX6_addStaff_74 : decode cX6_addStaff 74 = .ok (.isub, 1) := by decide +kernel
theorem dX6_addStaff_75 : decode cX6_addStaff 75 = .ok (.ireturn, 1) := by decide +kernel
theorem dX6_assign_0 : decode cX6_assign 0 = .ok (.aload_n 0, 1) := by decide +kernel
theorem dX6_assign_1 : decode cX6_assign 1 = .ok (.iload_n 1, 1) := by decide +kernel
theorem dX6_assign_2 : decode cX6_assign 2 = .ok (.invokevirtual 48, 3) := by decide +kernel
theorem dX6_assign_5 : decode cX6_assign 5 = .ok (.astore_n 3, 1) := by decide +kernel
theorem dX6_assign_6 : decode cX6_assign 6 = .ok (.aload_n 0, 1) := by decide +kernel
theorem dX6_assign_7 : decode cX6_assign 7 = .ok (.iload_n 2, 1) := by decide +kernel
theorem dX6_assign_8 : decode cX6_assign 8 = .ok (.invokevirtual 129, 3) := by decide +kernel
theorem dX6_assign_11 : decode cX6_assign 11 = .ok (.aload_n 0, 1) := by decide +kernel
theorem dX6_assign_12 : decode cX6_assign 12 = .ok (.iload_n 2, 1) := by decide +kernel
theorem dX6_assign_13 : decode cX6_assign 13 = .ok (.iload_n 1, 1) := by decide +kernel
theorem dX6_assign_14 : decode cX6_assign 14 = .ok (.invokevirtual 132, 3) := by decide +kernel
theorem dX6_assign_17 : decode cX6_assign 17 = .ok (.ifCond .eq 12, 3) := by decide +kernel
theorem dX6_assign_20 : decode cX6_assign 20 = .ok (.aload_n 0, 1) := by decide +kernel
theorem dX6_assign_21 : decode cX6_assign 21 = .ok (.iload_n 2, 1) := by decide +kernel
theorem dX6_assign_22 : decode cX6_assign 22 = .ok (.aload_n 3, 1) := by decide +kernel
theorem dX6_assign_23 : decode cX6_assign 23 = .ok (.invokevirtual 136, 3) := by decide +kernel
theorem dX6_assign_26 : decode cX6_assign 26 = .ok (.ifCond .eq 13, 3) := by decide +kernel
theorem dX6_assign_29 : decode cX6_assign 29 = .ok (.new 68, 3) := by decide +kernel
theorem dX6_assign_32 : decode cX6_assign 32 = .ok (.dup, 1) := by decide +kernel
theorem dX6_assign_33 : decode cX6_assign 33 = .ok (.ldc 140, 2) := by decide +kernel
theorem dX6_assign_35 : decode cX6_assign 35 = .ok (.invokespecial 72, 3) := by decide +kernel
theorem dX6_assign_38 : decode cX6_assign 38 = .ok (.athrow, 1) := by decide +kernel
theorem dX6_assign_39 : decode cX6_assign 39 = .ok (.aload_n 3, 1) := by decide +kernel
theorem dX6_assign_40 : decode cX6_assign 40 = .ok (.getfield 142, 3) := by decide +kernel
theorem dX6_assign_43 : decode cX6_assign 43 = .ok (.istore 4, 2) := by decide +kernel
theorem dX6_assign_45 : decode cX6_assign 45 = .ok (.aload_n 3, 1) := by decide +kernel
theorem dX6_assign_46 : decode cX6_assign 46 = .ok (.iload_n 2, 1) := by decide +kernel
theorem dX6_assign_47 : decode cX6_assign 47 = .ok (.putfield 142, 3) := by decide +kernel
theorem dX6_assign_50 : decode cX6_assign 50 = .ok (.iload 4, 2) := by decide +kernel
theorem dX6_assign_52 : decode cX6_assign 52 = .ok (.ireturn, 1) := by decide +kernel
theorem dX6_inspect_0 : decode cX6_inspect 0 = .ok (.aload_n 0, 1) := by decide +kernel
theorem dX6_inspect_1 : decode cX6_inspect 1 = .ok (.iload_n 1, 1) := by decide +kernel
theorem dX6_inspect_2 : decode cX6_inspect 2 = .ok (.invokevirtual 48, 3) := by decide +kernel
theorem dX6_inspect_5 : decode cX6_inspect 5 = .ok (.astore_n 3, 1) := by decide +kernel
theorem dX6_inspect_6 : decode cX6_inspect 6 = .ok (.aload_n 0, 1) := by decide +kernel
theorem dX6_inspect_7 : decode cX6_inspect 7 = .ok (.iload_n 2, 1) := by decide +kernel
theorem dX6_inspect_8 : decode cX6_inspect 8 = .ok (.invokevirtual 129, 3) := by decide +kernel
theorem dX6_inspect_11 : decode cX6_inspect 11 = .ok (.aload_n 0, 1) := by decide +kernel
theorem dX6_inspect_12 : decode cX6_inspect 12 = .ok (.iload_n 2, 1) := by decide +kernel
theorem dX6_inspect_13 : decode cX6_inspect 13 = .ok (.iload_n 1, 1) := by decide +kernel
theorem dX6_inspect_14 : decode cX6_inspect 14 = .ok (.invokevirtual 132, 3) := by decide +kernel
theorem dX6_inspect_17 : decode cX6_inspect 17 = .ok (.ifCond .ne 13, 3) := by decide +kernel
theorem dX6_inspect_20 : decode cX6_inspect 20 = .ok (.new 68, 3) := by decide +kernel
theorem dX6_inspect_23 : decode cX6_inspect 23 = .ok (.dup, 1) := by decide +kernel
theorem dX6_inspect_24 : decode cX6_inspect 24 = .ok (.ldc 145, 2) := by decide +kernel
theorem dX6_inspect_26 : decode cX6_inspect 26 = .ok (.invokespecial 72, 3) := by decide +kernel
theorem dX6_inspect_29 : decode cX6_inspect 29 = .ok (.athrow, 1) := by decide +kernel
theorem dX6_inspect_30 : decode cX6_inspect 30 = .ok (.aload_n 3, 1) := by decide +kernel
theorem dX6_inspect_31 : decode cX6_inspect 31 = .ok (.getfield 147, 3) := by decide +kernel
theorem dX6_inspect_34 : decode cX6_inspect 34 = .ok (.istore 4, 2) := by decide +kernel
theorem dX6_inspect_36 : decode cX6_inspect 36 = .ok (.aload_n 3, 1) := by decide +kernel
theorem dX6_inspect_37 : decode cX6_inspect 37 = .ok (.iconst 1, 1) := by decide +kernel
theorem dX6_inspect_38 : decode cX6_inspect 38 = .ok (.putfield 150, 3) := by decide +kernel
theorem dX6_inspect_41 : decode cX6_inspect 41 = .ok (.aload_n 3, 1) := by decide +kernel
theorem dX6_inspect_42 : decode cX6_inspect 42 = .ok (.iconst 0, 1) := by decide +kernel
theorem dX6_inspect_43 : decode cX6_inspect 43 = .ok (.putfield 147, 3) := by decide +kernel
theorem dX6_inspect_46 : decode cX6_inspect 46 = .ok (.iload 4, 2) := by decide +kernel
theorem dX6_inspect_48 : decode cX6_inspect 48 = .ok (.ireturn, 1) := by decide +kernel
theorem dX6_lock_0 : decode cX6_lock 0 = .ok (.aload_n 0, 1) := by decide +kernel
theorem dX6_lock_1 : decode cX6_lock 1 = .ok (.iload_n 1, 1) := by decide +kernel
theorem dX6_lock_2 : decode cX6_lock 2 = .ok (.invokevirtual 48, 3) := by decide +kernel
theorem dX6_lock_5 : decode cX6_lock 5 = .ok (.astore_n 3, 1) := by decide +kernel
theorem dX6_lock_6 : decode cX6_lock 6 = .ok (.aload_n 0, 1) := by decide +kernel
theorem dX6_lock_7 : decode cX6_lock 7 = .ok (.iload_n 2, 1) := by decide +kernel
theorem dX6_lock_8 : decode cX6_lock 8 = .ok (.invokevirtual 129, 3) := by decide +kernel
theorem dX6_lock_11 : decode cX6_lock 11 = .ok (.aload_n 3, 1) := by decide +kernel
theorem dX6_lock_12 : decode cX6_lock 12 = .ok (.iload_n 2, 1) := by decide +kernel
theorem dX6_lock_13 : decode cX6_lock 13 = .ok (.invokevirtual 153, 3) := by decide +kernel
theorem dX6_lock_16 : decode cX6_lock 16 = .ok (.ifCond .eq 13, 3) := by decide +kernel
theorem dX6_lock_19 : decode cX6_lock 19 = .ok (.new 68, 3) := by decide +kernel
theorem dX6_lock_22 : decode cX6_lock 22 = .ok (.dup, 1) := by decide +kernel
theorem dX6_lock_23 : decode cX6_lock 23 = .ok (.ldc 156, 2) := by decide +kernel
theorem dX6_lock_25 : decode cX6_lock 25 = .ok (.invokespecial 72, 3) := by decide +kernel
theorem dX6_lock_28 : decode cX6_lock 28 = .ok (.athrow, 1) := by decide +kernel
theorem dX6_lock_29 : decode cX6_lock 29 = .ok (.aload_n 3, 1) := by decide +kernel
theorem dX6_lock_30 : decode cX6_lock 30 = .ok (.aload_n 3, 1) := by decide +kernel
theorem dX6_lock_31 : decode cX6_lock 31 = .ok (.getfield 158, 3) := by decide +kernel
theorem dX6_lock_34 : decode cX6_lock 34 = .ok (.iconst 1, 1) := by decide +kernel
theorem dX6_lock_35 : decode cX6_lock 35 = .ok (.iload_n 2, 1) := by decide +kernel
theorem dX6_lock_36 : decode cX6_lock 36 = .ok (.ishl, 1) := by decide +kernel
theorem dX6_lock_37 : decode cX6_lock 37 = .ok (.ior, 1) := by decide +kernel
theorem dX6_lock_38 : decode cX6_lock 38 = .ok (.putfield 158, 3) := by decide +kernel
theorem dX6_lock_41 : decode cX6_lock 41 = .ok (.aload_n 3, 1) := by decide +kernel
theorem dX6_lock_42 : decode cX6_lock 42 = .ok (.getfield 158, 3) := by decide +kernel
theorem dX6_lock_45 : decode cX6_lock 45 = .ok (.invokestatic 161, 3) := by decide +kernel
theorem dX6_lock_48 : decode cX6_lock 48 = .ok (.ireturn, 1) := by decide +kernel
theorem dX6_unlock_0 : decode cX6_unlock 0 = .ok (.aload_n 0, 1) := by decide +kernel
theorem dX6_unlock_1 : decode cX6_unlock 1 = .ok (.iload_n 1, 1) := by decide +kernel
theorem dX6_unlock_2 : decode cX6_unlock 2 = .ok (.invokevirtual 48, 3) := by decide +kernel
theorem dX6_unlock_5 : decode cX6_unlock 5 = .ok (.astore_n 3, 1) := by decide +kernel
theorem dX6_unlock_6 : decode cX6_unlock 6 = .ok (.aload_n 0, 1) := by decide +kernel
theorem dX6_unlock_7 : decode cX6_unlock 7 = .ok (.iload_n 2, 1) := by decide +kernel
theorem dX6_unlock_8 : decode cX6_unlock 8 = .ok (.invokevirtual 129, 3) := by decide +kernel
theorem dX6_unlock_11 : decode cX6_unlock 11 = .ok (.aload_n 3, 1) := by decide +kernel
theorem dX6_unlock_12 : decode cX6_unlock 12 = .ok (.iload_n 2, 1) := by decide +kernel
theorem dX6_unlock_13 : decode cX6_unlock 13 = .ok (.invokevirtual 153, 3) := by decide +kernel
theorem dX6_unlock_16 : decode cX6_unlock 16 = .ok (.ifCond .ne 13, 3) := by decide +kernel
theorem dX6_unlock_19 : decode cX6_unlock 19 = .ok (.new 68, 3) := by decide +kernel
theorem dX6_unlock_22 : decode cX6_unlock 22 = .ok (.dup, 1) := by decide +kernel
theorem dX6_unlock_23 : decode cX6_unlock 23 = .ok (.ldc 167, 2) := by decide +kernel
theorem dX6_unlock_25 : decode cX6_unlock 25 = .ok (.invokespecial 72, 3) := by decide +kernel
theorem dX6_unlock_28 : decode cX6_unlock 28 = .ok (.athrow, 1) := by decide +kernel
theorem dX6_unlock_29 : decode cX6_unlock 29 = .ok (.aload_n 3, 1) := by decide +kernel
theorem dX6_unlock_30 : decode cX6_unlock 30 = .ok (.aload_n 3, 1) := by decide +kernel
theorem dX6_unlock_31 : decode cX6_unlock 31 = .ok (.getfield 158, 3) := by decide +kernel
theorem dX6_unlock_34 : decode cX6_unlock 34 = .ok (.iconst 1, 1) := by decide +kernel
theorem dX6_unlock_35 : decode cX6_unlock 35 = .ok (.iload_n 2, 1) := by decide +kernel
theorem dX6_unlock_36 : decode cX6_unlock 36 = .ok (.ishl, 1) := by decide +kernel
theorem dX6_unlock_37 : decode cX6_unlock 37 = .ok (.iconst (-1), 1) := by decide +kernel
theorem dX6_unlock_38 : decode cX6_unlock 38 = .ok (.ixor, 1) := by decide +kernel
theorem dX6_unlock_39 : decode cX6_unlock 39 = .ok (.iand, 1) := by decide +kernel
theorem dX6_unlock_40 : decode cX6_unlock 40 = .ok (.putfield 158, 3) := by decide +kernel
theorem dX6_unlock_43 : decode cX6_unlock 43 = .ok (.aload_n 3, 1) := by decide +kernel
theorem dX6_unlock_44 : decode cX6_unlock 44 = .ok (.getfield 158, 3) := by decide +kernel
theorem dX6_unlock_47 : decode cX6_unlock 47 = .ok (.invokestatic 161, 3) := by decide +kernel
theorem dX6_unlock_50 : decode cX6_unlock 50 = .ok (.ireturn, 1) := by decide +kernel
theorem dX6_setSensor_0 : decode cX6_setSensor 0 = .ok (.aload_n 0, 1) := by decide +kernel
theorem dX6_setSensor_1 : decode cX6_setSensor 1 = .ok (.iload_n 1, 1) := by decide +kernel
theorem dX6_setSensor_2 : decode cX6_setSensor 2 = .ok (.invokevirtual 48, 3) := by decide +kernel
theorem dX6_setSensor_5 : decode cX6_setSensor 5 = .ok (.astore 5, 2) := by decide +kernel
theorem dX6_setSensor_7 : decode cX6_setSensor 7 = .ok (.aload 5, 2) := by decide +kernel
theorem dX6_setSensor_9 : decode cX6_setSensor 9 = .ok (.iload_n 2, 1) := by decide +kernel
theorem dX6_setSensor_10 : decode cX6_setSensor 10 = .ok (.invokestatic 169, 3) := by decide +kernel
theorem dX6_setSensor_13 : decode cX6_setSensor 13 = .ok (.astore 6, 2) := by decide +kernel
theorem dX6_setSensor_15 : decode cX6_setSensor 15 = .ok (.iload_n 3, 1) := by decide +kernel
theorem dX6_setSensor_16 : decode cX6_setSensor 16 = .ok (.invokestatic 173, 3) := by decide +kernel
theorem dX6_setSensor_19 : decode cX6_setSensor 19 = .ok (.iload 4, 2) := by decide +kernel
theorem dX6_setSensor_21 : decode cX6_setSensor 21 = .ok (.bipush 116, 2) := by decide +kernel
theorem dX6_setSensor_23 : decode cX6_setSensor 23 = .ok (.if_icmp .eq 27, 3) := by decide +kernel
theorem dX6_setSensor_26 : decode cX6_setSensor 26 = .ok (.iload 4, 2) := by decide +kernel
theorem dX6_setSensor_28 : decode cX6_setSensor 28 = .ok (.bipush 97, 2) := by decide +kernel
theorem dX6_setSensor_30 : decode cX6_setSensor 30 = .ok (.if_icmp .eq 20, 3) := by decide +kernel
theorem dX6_setSensor_33 : decode cX6_setSensor 33 = .ok (.iload 4, 2) := by decide +kernel
theorem dX6_setSensor_35 : decode cX6_setSensor 35 = .ok (.bipush 110, 2) := by decide +kernel
theorem dX6_setSensor_37 : decode cX6_setSensor 37 = .ok (.if_icmp .eq 13, 3) := by decide +kernel
theorem dX6_setSensor_40 : decode cX6_setSensor 40 = .ok (.new 29, 3) := by decide +kernel
theorem dX6_setSensor_43 : decode cX6_setSensor 43 = .ok (.dup, 1) := by decide +kernel
theorem dX6_setSensor_44 : decode cX6_setSensor 44 = .ok (.ldc 176, 2) := by decide +kernel
theorem dX6_setSensor_46 : decode cX6_setSensor 46 = .ok (.invokespecial 33, 3) := by decide +kernel
theorem dX6_setSensor_49 : decode cX6_setSensor 49 = .ok (.athrow, 1) := by decide +kernel
theorem dX6_setSensor_50 : decode cX6_setSensor 50 = .ok (.aload 6, 2) := by decide +kernel
theorem dX6_setSensor_52 : decode cX6_setSensor 52 = .ok (.iload_n 3, 1) := by decide +kernel
theorem dX6_setSensor_53 : decode cX6_setSensor 53 = .ok (.invokevirtual 178, 3) := by decide +kernel
theorem dX6_setSensor_56 : decode cX6_setSensor 56 = .ok (.istore 7, 2) := by decide +kernel
theorem dX6_setSensor_58 : decode cX6_setSensor 58 = .ok (.aload 6, 2) := by decide +kernel
theorem dX6_setSensor_60 : decode cX6_setSensor 60 = .ok (.iload_n 3, 1) := by decide +kernel
theorem dX6_setSensor_61 : decode cX6_setSensor 61 = .ok (.iload 4, 2) := by decide +kernel
theorem dX6_setSensor_63 : decode cX6_setSensor 63 = .ok (.invokevirtual 182, 3) := by decide +kernel
theorem dX6_setSensor_66 : decode cX6_setSensor 66 = .ok (.aload 5, 2) := by decide +kernel
theorem dX6_setSensor_68 : decode cX6_setSensor 68 = .ok (.invokevirtual 119, 3) := by decide +kernel
theorem dX6_setSensor_71 : decode cX6_setSensor 71 = .ok (.iload 7, 2) := by decide +kernel
theorem dX6_setSensor_73 : decode cX6_setSensor 73 = .ok (.ireturn, 1) := by decide +kernel
theorem dX6_reset_0 : decode cX6_reset 0 = .ok (.aload_n 0, 1) := by decide +kernel
theorem dX6_reset_1 : decode cX6_reset 1 = .ok (.iload_n 1, 1) := by decide +kernel
theorem dX6_reset_2 : decode cX6_reset 2 = .ok (.invokevirtual 48, 3) := by decide +kernel
theorem dX6_reset_5 : decode cX6_reset 5 = .ok (.astore_n 2, 1) := by decide +kernel
theorem dX6_reset_6 : decode cX6_reset 6 = .ok (.aload_n 2, 1) := by decide +kernel
theorem dX6_reset_7 : decode cX6_reset 7 = .ok (.getfield 186, 3) := by decide +kernel
theorem dX6_reset_10 : decode cX6_reset 10 = .ok (.ifCond .eq 17, 3) := by decide +kernel
theorem dX6_reset_13 : decode cX6_reset 13 = .ok (.aload_n 2, 1) := by decide +kernel
theorem dX6_reset_14 : decode cX6_reset 14 = .ok (.invokevirtual 189, 3) := by decide +kernel
theorem dX6_reset_17 : decode cX6_reset 17 = .ok (.ifCond .ne 10, 3) := by decide +kernel
theorem dX6_reset_20 : decode cX6_reset 20 = .ok (.aload_n 2, 1) := by decide +kernel
theorem dX6_reset_21 : decode cX6_reset 21 = .ok (.invokevirtual 192, 3) := by decide +kernel
theorem dX6_reset_24 : decode cX6_reset 24 = .ok (.ifCond .eq 13, 3) := by decide +kernel
theorem dX6_reset_27 : decode cX6_reset 27 = .ok (.new 68, 3) := by decide +kernel
theorem dX6_reset_30 : decode cX6_reset 30 = .ok (.dup, 1) := by decide +kernel
theorem dX6_reset_31 : decode cX6_reset 31 = .ok (.ldc 195, 2) := by decide +kernel
theorem dX6_reset_33 : decode cX6_reset 33 = .ok (.invokespecial 72, 3) := by decide +kernel
theorem dX6_reset_36 : decode cX6_reset 36 = .ok (.athrow, 1) := by decide +kernel
theorem dX6_reset_37 : decode cX6_reset 37 = .ok (.aload_n 2, 1) := by decide +kernel
theorem dX6_reset_38 : decode cX6_reset 38 = .ok (.iconst 0, 1) := by decide +kernel
theorem dX6_reset_39 : decode cX6_reset 39 = .ok (.putfield 186, 3) := by decide +kernel
theorem dX6_reset_42 : decode cX6_reset 42 = .ok (.aload_n 2, 1) := by decide +kernel
theorem dX6_reset_43 : decode cX6_reset 43 = .ok (.getfield 105, 3) := by decide +kernel
theorem dX6_reset_46 : decode cX6_reset 46 = .ok (.ireturn, 1) := by decide +kernel
theorem dX6_setWind_0 : decode cX6_setWind 0 = .ok (.iload_n 1, 1) := by decide +kernel
theorem dX6_setWind_1 : decode cX6_setWind 1 = .ok (.iconst 0, 1) := by decide +kernel
theorem dX6_setWind_2 : decode cX6_setWind 2 = .ok (.bipush 40, 2) := by decide +kernel
theorem dX6_setWind_4 : decode cX6_setWind 4 = .ok (.invokestatic 25, 3) := by decide +kernel
theorem dX6_setWind_7 : decode cX6_setWind 7 = .ok (.ifCond .ne 13, 3) := by decide +kernel
theorem dX6_setWind_10 : decode cX6_setWind 10 = .ok (.new 29, 3) := by decide +kernel
theorem dX6_setWind_13 : decode cX6_setWind 13 = .ok (.dup, 1) := by decide +kernel
theorem dX6_setWind_14 : decode cX6_setWind 14 = .ok (.ldc 197, 2) := by decide +kernel
theorem dX6_setWind_16 : decode cX6_setWind 16 = .ok (.invokespecial 33, 3) := by decide +kernel
theorem dX6_setWind_19 : decode cX6_setWind 19 = .ok (.athrow, 1) := by decide +kernel
theorem dX6_setWind_20 : decode cX6_setWind 20 = .ok (.aload_n 0, 1) := by decide +kernel
theorem dX6_setWind_21 : decode cX6_setWind 21 = .ok (.getfield 199, 3) := by decide +kernel
theorem dX6_setWind_24 : decode cX6_setWind 24 = .ok (.istore_n 2, 1) := by decide +kernel
theorem dX6_setWind_25 : decode cX6_setWind 25 = .ok (.aload_n 0, 1) := by decide +kernel
theorem dX6_setWind_26 : decode cX6_setWind 26 = .ok (.iload_n 1, 1) := by decide +kernel
theorem dX6_setWind_27 : decode cX6_setWind 27 = .ok (.putfield 199, 3) := by decide +kernel
theorem dX6_setWind_30 : decode cX6_setWind 30 = .ok (.iload_n 2, 1) := by decide +kernel
theorem dX6_setWind_31 : decode cX6_setWind 31 = .ok (.ireturn, 1) := by decide +kernel
theorem dX6_strike_0 : decode cX6_strike 0 = .ok (.iload_n 1, 1) := by decide +kernel
theorem dX6_strike_1 : decode cX6_strike 1 = .ok (.iconst 0, 1) := by decide +kernel
theorem dX6_strike_2 : decode cX6_strike 2 = .ok (.bipush 99, 2) := by decide +kernel
theorem dX6_strike_4 : decode cX6_strike 4 = .ok (.invokestatic 25, 3) := by decide +kernel
theorem dX6_strike_7 : decode cX6_strike 7 = .ok (.ifCond .ne 13, 3) := by decide +kernel
theorem dX6_strike_10 : decode cX6_strike 10 = .ok (.new 29, 3) := by decide +kernel
theorem dX6_strike_13 : decode cX6_strike 13 = .ok (.dup, 1) := by decide +kernel
theorem dX6_strike_14 : decode cX6_strike 14 = .ok (.ldc 202, 2) := by decide +kernel
theorem dX6_strike_16 : decode cX6_strike 16 = .ok (.invokespecial 33, 3) := by decide +kernel
theorem dX6_strike_19 : decode cX6_strike 19 = .ok (.athrow, 1) := by decide +kernel
theorem dX6_strike_20 : decode cX6_strike 20 = .ok (.iload_n 1, 1) := by decide +kernel
theorem dX6_strike_21 : decode cX6_strike 21 = .ok (.bipush 10, 2) := by decide +kernel
theorem dX6_strike_23 : decode cX6_strike 23 = .ok (.if_icmp .lt 5, 3) := by decide +kernel
theorem dX6_strike_26 : decode cX6_strike 26 = .ok (.iconst 0, 1) := by decide +kernel
theorem dX6_strike_27 : decode cX6_strike 27 = .ok (.ireturn, 1) := by decide +kernel
theorem dX6_strike_28 : decode cX6_strike 28 = .ok (.aload_n 0, 1) := by decide +kernel
theorem dX6_strike_29 : decode cX6_strike 29 = .ok (.iconst 1, 1) := by decide +kernel
theorem dX6_strike_30 : decode cX6_strike 30 = .ok (.putfield 204, 3) := by decide +kernel
theorem dX6_strike_33 : decode cX6_strike 33 = .ok (.aload_n 0, 1) := by decide +kernel
theorem dX6_strike_34 : decode cX6_strike 34 = .ok (.aload_n 0, 1) := by decide +kernel
theorem dX6_strike_35 : decode cX6_strike 35 = .ok (.getfield 207, 3) := by decide +kernel
theorem dX6_strike_38 : decode cX6_strike 38 = .ok (.putfield 210, 3) := by decide +kernel
theorem dX6_strike_41 : decode cX6_strike 41 = .ok (.iconst 1, 1) := by decide +kernel
theorem dX6_strike_42 : decode cX6_strike 42 = .ok (.ireturn, 1) := by decide +kernel
theorem dX6_dispatch_0 : decode cX6_dispatch 0 = .ok (.aload_n 0, 1) := by decide +kernel
theorem dX6_dispatch_1 : decode cX6_dispatch 1 = .ok (.iload_n 1, 1) := by decide +kernel
theorem dX6_dispatch_2 : decode cX6_dispatch 2 = .ok (.invokevirtual 48, 3) := by decide +kernel
theorem dX6_dispatch_5 : decode cX6_dispatch 5 = .ok (.astore_n 2, 1) := by decide +kernel
theorem dX6_dispatch_6 : decode cX6_dispatch 6 = .ok (.aload_n 2, 1) := by decide +kernel
theorem dX6_dispatch_7 : decode cX6_dispatch 7 = .ok (.invokevirtual 213, 3) := by decide +kernel
theorem dX6_dispatch_10 : decode cX6_dispatch 10 = .ok (.astore_n 3, 1) := by decide +kernel
theorem dX6_dispatch_11 : decode cX6_dispatch 11 = .ok (.aload_n 3, 1) := by decide +kernel
theorem dX6_dispatch_12 : decode cX6_dispatch 12 = .ok (.ifnull 20, 3) := by decide +kernel
theorem dX6_dispatch_15 : decode cX6_dispatch 15 = .ok (.aload_n 2, 1) := by decide +kernel
theorem dX6_dispatch_16 : decode cX6_dispatch 16 = .ok (.aload_n 0, 1) := by decide +kernel
theorem dX6_dispatch_17 : decode cX6_dispatch 17 = .ok (.getfield 199, 3) := by decide +kernel
theorem dX6_dispatch_20 : decode cX6_dispatch 20 = .ok (.aload_n 0, 1) := by decide +kernel
theorem dX6_dispatch_21 : decode cX6_dispatch 21 = .ok (.invokevirtual 217, 3) := by decide +kernel
theorem dX6_dispatch_24 : decode cX6_dispatch 24 = .ok (.invokevirtual 220, 3) := by decide +kernel
theorem dX6_dispatch_27 : decode cX6_dispatch 27 = .ok (.bipush 46, 2) := by decide +kernel
theorem dX6_dispatch_29 : decode cX6_dispatch 29 = .ok (.if_icmp .eq 13, 3) := by decide +kernel
theorem dX6_dispatch_32 : decode cX6_dispatch 32 = .ok (.new 68, 3) := by decide +kernel
theorem dX6_dispatch_35 : decode cX6_dispatch 35 = .ok (.dup, 1) := by decide +kernel
theorem dX6_dispatch_36 : decode cX6_dispatch 36 = .ok (.ldc 224, 2) := by decide +kernel
theorem dX6_dispatch_38 : decode cX6_dispatch 38 = .ok (.invokespecial 72, 3) := by decide +kernel
theorem dX6_dispatch_41 : decode cX6_dispatch 41 = .ok (.athrow, 1) := by decide +kernel
theorem dX6_dispatch_42 : decode cX6_dispatch 42 = .ok (.aload_n 2, 1) := by decide +kernel
theorem dX6_dispatch_43 : decode cX6_dispatch 43 = .ok (.aload_n 3, 1) := by decide +kernel
theorem dX6_dispatch_44 : decode cX6_dispatch 44 = .ok (.invokevirtual 226, 3) := by decide +kernel
theorem dX6_dispatch_47 : decode cX6_dispatch 47 = .ok (.aload_n 2, 1) := by decide +kernel
theorem dX6_dispatch_48 : decode cX6_dispatch 48 = .ok (.aload_n 3, 1) := by decide +kernel
theorem dX6_dispatch_49 : decode cX6_dispatch 49 = .ok (.invokevirtual 230, 3) := by decide +kernel
theorem dX6_dispatch_52 : decode cX6_dispatch 52 = .ok (.ireturn, 1) := by decide +kernel
theorem dX6_push_0 : decode cX6_push 0 = .ok (.aload_n 0, 1) := by decide +kernel
theorem dX6_push_1 : decode cX6_push 1 = .ok (.iload_n 1, 1) := by decide +kernel
theorem dX6_push_2 : decode cX6_push 2 = .ok (.invokevirtual 48, 3) := by decide +kernel
theorem dX6_push_5 : decode cX6_push 5 = .ok (.astore_n 3, 1) := by decide +kernel
theorem dX6_push_6 : decode cX6_push 6 = .ok (.aload_n 3, 1) := by decide +kernel
theorem dX6_push_7 : decode cX6_push 7 = .ok (.iload_n 2, 1) := by decide +kernel
theorem dX6_push_8 : decode cX6_push 8 = .ok (.invokestatic 233, 3) := by decide +kernel
theorem dX6_push_11 : decode cX6_push 11 = .ok (.astore 4, 2) := by decide +kernel
theorem dX6_push_13 : decode cX6_push 13 = .ok (.aload 4, 2) := by decide +kernel
theorem dX6_push_15 : decode cX6_push 15 = .ok (.getfield 237, 3) := by decide +kernel
theorem dX6_push_18 : decode cX6_push 18 = .ok (.bipush 120, 2) := by decide +kernel
theorem dX6_push_20 : decode cX6_push 20 = .ok (.if_icmp .eq 13, 3) := by decide +kernel
theorem dX6_push_23 : decode cX6_push 23 = .ok (.new 68, 3) := by decide +kernel
theorem dX6_push_26 : decode cX6_push 26 = .ok (.dup, 1) := by decide +kernel
theorem dX6_push_27 : decode cX6_push 27 = .ok (.ldc 241, 2) := by decide +kernel
theorem dX6_push_29 : decode cX6_push 29 = .ok (.invokespecial 72, 3) := by decide +kernel
theorem dX6_push_32 : decode cX6_push 32 = .ok (.athrow, 1) := by decide +kernel
theorem dX6_push_33 : decode cX6_push 33 = .ok (.aload 4, 2) := by decide +kernel
theorem dX6_push_35 : decode cX6_push 35 = .ok (.aload_n 3, 1) := by decide +kernel
theorem dX6_push_36 : decode cX6_push 36 = .ok (.getfield 52, 3) := by decide +kernel
theorem dX6_push_39 : decode cX6_push 39 = .ok (.aload 4, 2) := by decide +kernel
theorem dX6_push_41 : decode cX6_push 41 = .ok (.getfield 243, 3) := by decide +kernel
theorem dX6_push_44 : decode cX6_push 44 = .ok (.invokevirtual 246, 3) := by decide +kernel
theorem dX6_push_47 : decode cX6_push 47 = .ok (.invokevirtual 249, 3) := by decide +kernel
theorem dX6_push_50 : decode cX6_push 50 = .ok (.aload_n 3, 1) := by decide +kernel
theorem dX6_push_51 : decode cX6_push 51 = .ok (.invokevirtual 119, 3) := by decide +kernel
theorem dX6_push_54 : decode cX6_push 54 = .ok (.aload 4, 2) := by decide +kernel
theorem dX6_push_56 : decode cX6_push 56 = .ok (.getfield 243, 3) := by decide +kernel
theorem dX6_push_59 : decode cX6_push 59 = .ok (.ireturn, 1) := by decide +kernel
theorem dX6_tick_0 : decode cX6_tick 0 = .ok (.iload_n 1, 1) := by decide +kernel
theorem dX6_tick_1 : decode cX6_tick 1 = .ok (.iconst 1, 1) := by decide +kernel
theorem dX6_tick_2 : decode cX6_tick 2 = .ok (.bipush 60, 2) := by decide +kernel
theorem dX6_tick_4 : decode cX6_tick 4 = .ok (.invokestatic 25, 3) := by decide +kernel
theorem dX6_tick_7 : decode cX6_tick 7 = .ok (.ifCond .ne 13, 3) := by decide +kernel
theorem dX6_tick_10 : decode cX6_tick 10 = .ok (.new 29, 3) := by decide +kernel
theorem dX6_tick_13 : decode cX6_tick 13 = .ok (.dup, 1) := by decide +kernel
theorem dX6_tick_14 : decode cX6_tick 14 = .ok (.ldc 252, 2) := by decide +kernel
theorem dX6_tick_16 : decode cX6_tick 16 = .ok (.invokespecial 33, 3) := by decide +kernel
theorem dX6_tick_19 : decode cX6_tick 19 = .ok (.athrow, 1) := by decide +kernel
theorem dX6_tick_20 : decode cX6_tick 20 = .ok (.iconst 0, 1) := by decide +kernel
theorem dX6_tick_21 : decode cX6_tick 21 = .ok (.istore_n 2, 1) := by decide +kernel
theorem dX6_tick_22 : decode cX6_tick 22 = .ok (.iload_n 2, 1) := by decide +kernel
theorem dX6_tick_23 : decode cX6_tick 23 = .ok (.iload_n 1, 1) := by decide +kernel
theorem dX6_tick_24 : decode cX6_tick 24 = .ok (.if_icmp .ge 83, 3) := by decide +kernel
theorem dX6_tick_27 : decode cX6_tick 27 = .ok (.aload_n 0, 1) := by decide +kernel
theorem dX6_tick_28 : decode cX6_tick 28 = .ok (.dup, 1) := by decide +kernel
theorem dX6_tick_29 : decode cX6_tick 29 = .ok (.getfield 207, 3) := by decide +kernel
theorem dX6_tick_32 : decode cX6_tick 32 = .ok (.iconst 1, 1) := by decide +kernel
theorem dX6_tick_33 : decode cX6_tick 33 = .ok (.iadd, 1) := by decide +kernel
theorem dX6_tick_34 : decode cX6_tick 34 = .ok (.putfield 207, 3) := by decide +kernel
theorem dX6_tick_37 : decode cX6_tick 37 = .ok (.aload_n 0, 1) := by decide +kernel
theorem dX6_tick_38 : decode cX6_tick 38 = .ok (.getfield 11, 3) := by decide +kernel
theorem dX6_tick_41 : decode cX6_tick 41 = .ok (.astore_n 3, 1) := by decide +kernel
theorem dX6_tick_42 : decode cX6_tick 42 = .ok (.aload_n 3, 1) := by decide +kernel
theorem dX6_tick_43 : decode cX6_tick 43 = .ok (.arraylength, 1) := by decide +kernel
theorem dX6_tick_44 : decode cX6_tick 44 = .ok (.istore 4, 2) := by decide +kernel
theorem dX6_tick_46 : decode cX6_tick 46 = .ok (.iconst 0, 1) := by decide +kernel
theorem dX6_tick_47 : decode cX6_tick 47 = .ok (.istore 5, 2) := by decide +kernel
theorem dX6_tick_49 : decode cX6_tick 49 = .ok (.iload 5, 2) := by decide +kernel
theorem dX6_tick_51 : decode cX6_tick 51 = .ok (.iload 4, 2) := by decide +kernel
theorem dX6_tick_53 : decode cX6_tick 53 = .ok (.if_icmp .ge 34, 3) := by decide +kernel
theorem dX6_tick_56 : decode cX6_tick 56 = .ok (.aload_n 3, 1) := by decide +kernel
theorem dX6_tick_57 : decode cX6_tick 57 = .ok (.iload 5, 2) := by decide +kernel
theorem dX6_tick_59 : decode cX6_tick 59 = .ok (.aaload, 1) := by decide +kernel
theorem dX6_tick_60 : decode cX6_tick 60 = .ok (.astore 6, 2) := by decide +kernel
theorem dX6_tick_62 : decode cX6_tick 62 = .ok (.aload 6, 2) := by decide +kernel
theorem dX6_tick_64 : decode cX6_tick 64 = .ok (.ifnull 17, 3) := by decide +kernel
theorem dX6_tick_67 : decode cX6_tick 67 = .ok (.aload 6, 2) := by decide +kernel
theorem dX6_tick_69 : decode cX6_tick 69 = .ok (.aload_n 0, 1) := by decide +kernel
theorem dX6_tick_70 : decode cX6_tick 70 = .ok (.getfield 199, 3) := by decide +kernel
theorem dX6_tick_73 : decode cX6_tick 73 = .ok (.invokevirtual 254, 3) := by decide +kernel
theorem dX6_tick_76 : decode cX6_tick 76 = .ok (.aload 6, 2) := by decide +kernel
theorem dX6_tick_78 : decode cX6_tick 78 = .ok (.invokevirtual 119, 3) := by decide +kernel
theorem dX6_tick_81 : decode cX6_tick 81 = .ok (.iinc 5 1, 3) := by decide +kernel
theorem dX6_tick_84 : decode cX6_tick 84 = .ok (.goto (-35), 3) := by decide +kernel
theorem dX6_tick_87 : decode cX6_tick 87 = .ok (.aload_n 0, 1) := by decide +kernel
theorem dX6_tick_88 : decode cX6_tick 88 = .ok (.getfield 207, 3) := by decide +kernel
theorem dX6_tick_91 : decode cX6_tick 91 = .ok (.bipush 10, 2) := by decide +kernel
theorem dX6_tick_93 : decode cX6_tick 93 = .ok (.irem, 1) := by decide +kernel
theorem dX6_tick_94 : decode cX6_tick 94 = .ok (.ifCond .ne 7, 3) := by decide +kernel
theorem dX6_tick_97 : decode cX6_tick 97 = .ok (.aload_n 0, 1) := by decide +kernel
theorem dX6_tick_98 : decode cX6_tick 98 = .ok (.invokevirtual 257, 3) := by decide +kernel
theorem dX6_tick_101 : decode cX6_tick 101 = .ok (.iinc 2 1, 3) := by decide +kernel
theorem dX6_tick_104 : decode cX6_tick 104 = .ok (.goto (-82), 3) := by decide +kernel
theorem dX6_tick_107 : decode cX6_tick 107 = .ok (.aload_n 0, 1) := by decide +kernel
theorem dX6_tick_108 : decode cX6_tick 108 = .ok (.getfield 207, 3) := by decide +kernel
theorem dX6_tick_111 : decode cX6_tick 111 = .ok (.ireturn, 1) := by decide +kernel
theorem dX6_enter_0 : decode cX6_enter 0 = .ok (.iload_n 1, 1) := by decide +kernel
theorem dX6_enter_1 : decode cX6_enter 1 = .ok (.iconst 0, 1) := by decide +kernel
theorem dX6_enter_2 : decode cX6_enter 2 = .ok (.sipush 999, 3) := by decide +kernel
theorem dX6_enter_5 : decode cX6_enter 5 = .ok (.invokestatic 25, 3) := by decide +kernel
theorem dX6_enter_8 : decode cX6_enter 8 = .ok (.ifCond .eq 25, 3) := by decide +kernel
theorem dX6_enter_11 : decode cX6_enter 11 = .ok (.iload_n 2, 1) := by decide +kernel
theorem dX6_enter_12 : decode cX6_enter 12 = .ok (.bipush 50, 2) := by decide +kernel
theorem dX6_enter_14 : decode cX6_enter 14 = .ok (.sipush 250, 3) := by decide +kernel
theorem dX6_enter_17 : decode cX6_enter 17 = .ok (.invokestatic 25, 3) := by decide +kernel
theorem dX6_enter_20 : decode cX6_enter 20 = .ok (.ifCond .eq 13, 3) := by decide +kernel
theorem dX6_enter_23 : decode cX6_enter 23 = .ok (.iload_n 3, 1) := by decide +kernel
theorem dX6_enter_24 : decode cX6_enter 24 = .ok (.iconst 0, 1) := by decide +kernel
theorem dX6_enter_25 : decode cX6_enter 25 = .ok (.bipush 9, 2) := by decide +kernel
theorem dX6_enter_27 : decode cX6_enter 27 = .ok (.invokestatic 25, 3) := by decide +kernel
theorem dX6_enter_30 : decode cX6_enter 30 = .ok (.ifCond .ne 14, 3) := by decide +kernel
theorem dX6_enter_33 : decode cX6_enter 33 = .ok (.new 29, 3) := by decide +kernel
theorem dX6_enter_36 : decode cX6_enter 36 = .ok (.dup, 1) := by decide +kernel
theorem dX6_enter_37 : decode cX6_enter 37 = .ok (.ldc_w 260, 3) := by decide +kernel
theorem dX6_enter_40 : decode cX6_enter 40 = .ok (.invokespecial 33, 3) := by decide +kernel
theorem dX6_enter_43 : decode cX6_enter 43 = .ok (.athrow, 1) := by decide +kernel
theorem dX6_enter_44 : decode cX6_enter 44 = .ok (.aload_n 0, 1) := by decide +kernel
theorem dX6_enter_45 : decode cX6_enter 45 = .ok (.getfield 262, 3) := by decide +kernel
theorem dX6_enter_48 : decode cX6_enter 48 = .ok (.ifCond .lt 15, 3) := by decide +kernel
theorem dX6_enter_51 : decode cX6_enter 51 = .ok (.aload_n 0, 1) := by decide +kernel
theorem dX6_enter_52 : decode cX6_enter 52 = .ok (.getfield 262, 3) := by decide +kernel
theorem dX6_enter_55 : decode cX6_enter 55 = .ok (.aload_n 0, 1) := by decide +kernel
theorem dX6_enter_56 : decode cX6_enter 56 = .ok (.getfield 21, 3) := by decide +kernel
theorem dX6_enter_59 : decode cX6_enter 59 = .ok (.arraylength, 1) := by decide +kernel
theorem dX6_enter_60 : decode cX6_enter 60 = .ok (.if_icmp .lt 14, 3) := by decide +kernel
theorem dX6_enter_63 : decode cX6_enter 63 = .ok (.new 40, 3) := by decide +kernel
theorem dX6_enter_66 : decode cX6_enter 66 = .ok (.dup, 1) := by decide +kernel
theorem dX6_enter_67 : decode cX6_enter 67 = .ok (.ldc_w 265, 3) := by decide +kernel
theorem dX6_enter_70 : decode cX6_enter 70 = .ok (.invokespecial 44, 3) := by decide +kernel
theorem dX6_enter_73 : decode cX6_enter 73 = .ok (.athrow, 1) := by decide +kernel
theorem dX6_enter_74 : decode cX6_enter 74 = .ok (.aload_n 0, 1) := by decide +kernel
theorem dX6_enter_75 : decode cX6_enter 75 = .ok (.getfield 21, 3) := by decide +kernel
theorem dX6_enter_78 : decode cX6_enter 78 = .ok (.aload_n 0, 1) := by decide +kernel
theorem dX6_enter_79 : decode cX6_enter 79 = .ok (.getfield 262, 3) := by decide +kernel
theorem dX6_enter_82 : decode cX6_enter 82 = .ok (.new 19, 3) := by decide +kernel
theorem dX6_enter_85 : decode cX6_enter 85 = .ok (.dup, 1) := by decide +kernel
theorem dX6_enter_86 : decode cX6_enter 86 = .ok (.iload_n 1, 1) := by decide +kernel
theorem dX6_enter_87 : decode cX6_enter 87 = .ok (.iload_n 2, 1) := by decide +kernel
theorem dX6_enter_88 : decode cX6_enter 88 = .ok (.iload_n 3, 1) := by decide +kernel
theorem dX6_enter_89 : decode cX6_enter 89 = .ok (.invokespecial 267, 3) := by decide +kernel
theorem dX6_enter_92 : decode cX6_enter 92 = .ok (.aastore, 1) := by decide +kernel
theorem dX6_enter_93 : decode cX6_enter 93 = .ok (.aload_n 0, 1) := by decide +kernel
theorem dX6_enter_94 : decode cX6_enter 94 = .ok (.dup, 1) := by decide +kernel
theorem dX6_enter_95 : decode cX6_enter 95 = .ok (.getfield 268, 3) := by decide +kernel
theorem dX6_enter_98 : decode cX6_enter 98 = .ok (.iload_n 1, 1) := by decide +kernel
theorem dX6_enter_99 : decode cX6_enter 99 = .ok (.i2l, 1) := by decide +kernel
theorem dX6_enter_100 : decode cX6_enter 100 = .ok (.ladd, 1) := by decide +kernel
theorem dX6_enter_101 : decode cX6_enter 101 = .ok (.putfield 268, 3) := by decide +kernel
theorem dX6_enter_104 : decode cX6_enter 104 = .ok (.aload_n 0, 1) := by decide +kernel
theorem dX6_enter_105 : decode cX6_enter 105 = .ok (.dup, 1) := by decide +kernel
theorem dX6_enter_106 : decode cX6_enter 106 = .ok (.getfield 262, 3) := by decide +kernel
theorem dX6_enter_109 : decode cX6_enter 109 = .ok (.iconst 1, 1) := by decide +kernel
theorem dX6_enter_110 : decode cX6_enter 110 = .ok (.iadd, 1) := by decide +kernel
theorem dX6_enter_111 : decode cX6_enter 111 = .ok (.putfield 262, 3) := by decide +kernel
theorem dX6_enter_114 : decode cX6_enter 114 = .ok (.aload_n 0, 1) := by decide +kernel
theorem dX6_enter_115 : decode cX6_enter 115 = .ok (.getfield 262, 3) := by decide +kernel
theorem dX6_enter_118 : decode cX6_enter 118 = .ok (.iconst 1, 1) := by decide +kernel
theorem dX6_enter_119 : decode cX6_enter 119 = .ok (.isub, 1) := by decide +kernel
theorem dX6_enter_120 : decode cX6_enter 120 = .ok (.ireturn, 1) := by decide +kernel
theorem dX6_leave_0 : decode cX6_leave 0 = .ok (.aload_n 0, 1) := by decide +kernel
theorem dX6_leave_1 : decode cX6_leave 1 = .ok (.iload_n 1, 1) := by decide +kernel
theorem dX6_leave_2 : decode cX6_leave 2 = .ok (.invokevirtual 272, 3) := by decide +kernel
theorem dX6_leave_5 : decode cX6_leave 5 = .ok (.astore_n 2, 1) := by decide +kernel
theorem dX6_leave_6 : decode cX6_leave 6 = .ok (.aload_n 2, 1) := by decide +kernel
theorem dX6_leave_7 : decode cX6_leave 7 = .ok (.getfield 276, 3) := by decide +kernel
theorem dX6_leave_10 : decode cX6_leave 10 = .ok (.bipush 112, 2) := by decide +kernel
theorem dX6_leave_12 : decode cX6_leave 12 = .ok (.if_icmp .eq 14, 3) := by decide +kernel
theorem dX6_leave_15 : decode cX6_leave 15 = .ok (.new 68, 3) := by decide +kernel
theorem dX6_leave_18 : decode cX6_leave 18 = .ok (.dup, 1) := by decide +kernel
theorem dX6_leave_19 : decode cX6_leave 19 = .ok (.ldc_w 279, 3) := by decide +kernel
theorem dX6_leave_22 : decode cX6_leave 22 = .ok (.invokespecial 72, 3) := by decide +kernel
theorem dX6_leave_25 : decode cX6_leave 25 = .ok (.athrow, 1) := by decide +kernel
theorem dX6_leave_26 : decode cX6_leave 26 = .ok (.aload_n 2, 1) := by decide +kernel
theorem dX6_leave_27 : decode cX6_leave 27 = .ok (.bipush 111, 2) := by decide +kernel
theorem dX6_leave_29 : decode cX6_leave 29 = .ok (.putfield 276, 3) := by decide +kernel
theorem dX6_leave_32 : decode cX6_leave 32 = .ok (.aload_n 0, 1) := by decide +kernel
theorem dX6_leave_33 : decode cX6_leave 33 = .ok (.dup, 1) := by decide +kernel
theorem dX6_leave_34 : decode cX6_leave 34 = .ok (.getfield 281, 3) := by decide +kernel
theorem dX6_leave_37 : decode cX6_leave 37 = .ok (.aload_n 2, 1) := by decide +kernel
theorem dX6_leave_38 : decode cX6_leave 38 = .ok (.getfield 284, 3) := by decide +kernel
theorem dX6_leave_41 : decode cX6_leave 41 = .ok (.i2l, 1) := by decide +kernel
theorem dX6_leave_42 : decode cX6_leave 42 = .ok (.ladd, 1) := by decide +kernel
theorem dX6_leave_43 : decode cX6_leave 43 = .ok (.putfield 281, 3) := by decide +kernel
theorem dX6_leave_46 : decode cX6_leave 46 = .ok (.aload_n 2, 1) := by decide +kernel
theorem dX6_leave_47 : decode cX6_leave 47 = .ok (.getfield 284, 3) := by decide +kernel
theorem dX6_leave_50 : decode cX6_leave 50 = .ok (.ireturn, 1) := by decide +kernel
theorem dX6_queue_0 : decode cX6_queue 0 = .ok (.aload_n 0, 1) := by decide +kernel
theorem dX6_queue_1 : decode cX6_queue 1 = .ok (.iload_n 1, 1) := by decide +kernel
theorem dX6_queue_2 : decode cX6_queue 2 = .ok (.invokevirtual 272, 3) := by decide +kernel
theorem dX6_queue_5 : decode cX6_queue 5 = .ok (.astore 4, 2) := by decide +kernel
theorem dX6_queue_7 : decode cX6_queue 7 = .ok (.aload_n 0, 1) := by decide +kernel
theorem dX6_queue_8 : decode cX6_queue 8 = .ok (.iload_n 2, 1) := by decide +kernel
theorem dX6_queue_9 : decode cX6_queue 9 = .ok (.invokevirtual 48, 3) := by decide +kernel
theorem dX6_queue_12 : decode cX6_queue 12 = .ok (.astore 5, 2) := by decide +kernel
theorem dX6_queue_14 : decode cX6_queue 14 = .ok (.aload 5, 2) := by decide +kernel
theorem dX6_queue_16 : decode cX6_queue 16 = .ok (.iload_n 3, 1) := by decide +kernel
theorem dX6_queue_17 : decode cX6_queue 17 = .ok (.invokestatic 287, 3) := by decide +kernel
theorem dX6_queue_20 : decode cX6_queue 20 = .ok (.astore 6, 2) := by decide +kernel
theorem dX6_queue_22 : decode cX6_queue 22 = .ok (.iload_n 3, 1) := by decide +kernel
theorem dX6_queue_23 : decode cX6_queue 23 = .ok (.bipush 114, 2) := by decide +kernel
theorem dX6_queue_25 : decode cX6_queue 25 = .ok (.if_icmp .ne 7, 3) := by decide +kernel
theorem dX6_queue_28 : decode cX6_queue 28 = .ok (.iconst 1, 1) := by decide +kernel
theorem dX6_queue_29 : decode cX6_queue 29 = .ok (.goto 4, 3) := by decide +kernel
theorem dX6_queue_32 : decode cX6_queue 32 = .ok (.iconst 0, 1) := by decide +kernel
theorem dX6_queue_33 : decode cX6_queue 33 = .ok (.istore 7, 2) := by decide +kernel
theorem dX6_queue_35 : decode cX6_queue 35 = .ok (.aload 4, 2) := by decide +kernel
theorem dX6_queue_37 : decode cX6_queue 37 = .ok (.aload 5, 2) := by decide +kernel
theorem dX6_queue_39 : decode cX6_queue 39 = .ok (.invokevirtual 291, 3) := by decide +kernel
theorem dX6_queue_42 : decode cX6_queue 42 = .ok (.ifCond .eq 21, 3) := by decide +kernel
theorem dX6_queue_45 : decode cX6_queue 45 = .ok (.iload 7, 2) := by decide +kernel
theorem dX6_queue_47 : decode cX6_queue 47 = .ok (.ifCond .eq 27, 3) := by decide +kernel
theorem dX6_queue_50 : decode cX6_queue 50 = .ok (.aload 4, 2) := by decide +kernel
theorem dX6_queue_52 : decode cX6_queue 52 = .ok (.iload_n 2, 1) := by decide +kernel
theorem dX6_queue_53 : decode cX6_queue 53 = .ok (.aload_n 0, 1) := by decide +kernel
theorem dX6_queue_54 : decode cX6_queue 54 = .ok (.getfield 207, 3) := by decide +kernel
theorem dX6_queue_57 : decode cX6_queue 57 = .ok (.invokevirtual 295, 3) := by decide +kernel
theorem dX6_queue_60 : decode cX6_queue 60 = .ok (.ifCond .ne 14, 3) := by decide +kernel
theorem dX6_queue_63 : decode cX6_queue 63 = .ok (.new 68, 3) := by decide +kernel
theorem dX6_queue_66 : decode cX6_queue 66 = .ok (.dup, 1) := by decide +kernel
theorem dX6_queue_67 : decode cX6_queue 67 = .ok (.ldc_w 298, 3) := by decide +kernel
theorem dX6_queue_70 : decode cX6_queue 70 = .ok (.invokespecial 72, 3) := by decide +kernel
theorem dX6_queue_73 : decode cX6_queue 73 = .ok (.athrow, 1) := by decide +kernel
theorem dX6_queue_74 : decode cX6_queue 74 = .ok (.iload 7, 2) := by decide +kernel
theorem dX6_queue_76 : decode cX6_queue 76 = .ok (.ifCond .eq 9, 3) := by decide +kernel
theorem dX6_queue_79 : decode cX6_queue 79 = .ok (.aload 4, 2) := by decide +kernel
theorem dX6_queue_81 : decode cX6_queue 81 = .ok (.iconst (-1), 1) := by decide +kernel
theorem dX6_queue_82 : decode cX6_queue 82 = .ok (.putfield 300, 3) := by decide +kernel
theorem dX6_queue_85 : decode cX6_queue 85 = .ok (.aload 4, 2) := by decide +kernel
theorem dX6_queue_87 : decode cX6_queue 87 = .ok (.aload 6, 2) := by decide +kernel
theorem dX6_queue_89 : decode cX6_queue 89 = .ok (.aload 5, 2) := by decide +kernel
theorem dX6_queue_91 : decode cX6_queue 91 = .ok (.getfield 303, 3) := by decide +kernel
theorem dX6_queue_94 : decode cX6_queue 94 = .ok (.invokevirtual 306, 3) := by decide +kernel
theorem dX6_queue_97 : decode cX6_queue 97 = .ok (.aload_n 0, 1) := by decide +kernel
theorem dX6_queue_98 : decode cX6_queue 98 = .ok (.dup, 1) := by decide +kernel
theorem dX6_queue_99 : decode cX6_queue 99 = .ok (.getfield 310, 3) := by decide +kernel
theorem dX6_queue_102 : decode cX6_queue 102 = .ok (.aload 5, 2) := by decide +kernel
theorem dX6_queue_104 : decode cX6_queue 104 = .ok (.getfield 303, 3) := by decide +kernel
theorem dX6_queue_107 : decode cX6_queue 107 = .ok (.i2l, 1) := by decide +kernel
theorem dX6_queue_108 : decode cX6_queue 108 = .ok (.ladd, 1) := by decide +kernel
theorem dX6_queue_109 : decode cX6_queue 109 = .ok (.putfield 310, 3) := by decide +kernel
theorem dX6_queue_112 : decode cX6_queue 112 = .ok (.aload 6, 2) := by decide +kernel
theorem dX6_queue_114 : decode cX6_queue 114 = .ok (.getfield 313, 3) := by decide +kernel
theorem dX6_queue_117 : decode cX6_queue 117 = .ok (.ireturn, 1) := by decide +kernel
theorem dX6_quit_0 : decode cX6_quit 0 = .ok (.aload_n 0, 1) := by decide +kernel
theorem dX6_quit_1 : decode cX6_quit 1 = .ok (.iload_n 1, 1) := by decide +kernel
theorem dX6_quit_2 : decode cX6_quit 2 = .ok (.invokevirtual 272, 3) := by decide +kernel
theorem dX6_quit_5 : decode cX6_quit 5 = .ok (.astore_n 2, 1) := by decide +kernel
theorem dX6_quit_6 : decode cX6_quit 6 = .ok (.aload_n 2, 1) := by decide +kernel
theorem dX6_quit_7 : decode cX6_quit 7 = .ok (.getfield 276, 3) := by decide +kernel
theorem dX6_quit_10 : decode cX6_quit 10 = .ok (.bipush 113, 2) := by decide +kernel
theorem dX6_quit_12 : decode cX6_quit 12 = .ok (.if_icmp .eq 14, 3) := by decide +kernel
theorem dX6_quit_15 : decode cX6_quit 15 = .ok (.new 68, 3) := by decide +kernel
theorem dX6_quit_18 : decode cX6_quit 18 = .ok (.dup, 1) := by decide +kernel
theorem dX6_quit_19 : decode cX6_quit 19 = .ok (.ldc_w 318, 3) := by decide +kernel
theorem dX6_quit_22 : decode cX6_quit 22 = .ok (.invokespecial 72, 3) := by decide +kernel
theorem dX6_quit_25 : decode cX6_quit 25 = .ok (.athrow, 1) := by decide +kernel
theorem dX6_quit_26 : decode cX6_quit 26 = .ok (.aload_n 2, 1) := by decide +kernel
theorem dX6_quit_27 : decode cX6_quit 27 = .ok (.invokevirtual 320, 3) := by decide +kernel
theorem dX6_quit_30 : decode cX6_quit 30 = .ok (.istore_n 3, 1) := by decide +kernel
theorem dX6_quit_31 : decode cX6_quit 31 = .ok (.aload_n 0, 1) := by decide +kernel
theorem dX6_quit_32 : decode cX6_quit 32 = .ok (.dup, 1) := by decide +kernel
theorem dX6_quit_33 : decode cX6_quit 33 = .ok (.getfield 310, 3) := by decide +kernel
theorem dX6_quit_36 : decode cX6_quit 36 = .ok (.iload_n 3, 1) := by decide +kernel
theorem dX6_quit_37 : decode cX6_quit 37 = .ok (.i2l, 1) := by decide +kernel
theorem dX6_quit_38 : decode cX6_quit 38 = .ok (.lsub, 1) := by decide +kernel
theorem dX6_quit_39 : decode cX6_quit 39 = .ok (.putfield 310, 3) := by decide +kernel
theorem dX6_quit_42 : decode cX6_quit 42 = .ok (.iload_n 3, 1) := by decide +kernel
theorem dX6_quit_43 : decode cX6_quit 43 = .ok (.ireturn, 1) := by decide +kernel
theorem dX6_takeReturn_0 : decode cX6_takeReturn 0 = .ok (.aload_n 0, 1) := by decide +kernel
theorem dX6_takeReturn_1 : decode cX6_takeReturn 1 = .ok (.iload_n 1, 1) := by decide +kernel
theorem dX6_takeReturn_2 : decode cX6_takeReturn 2 = .ok (.invokevirtual 272, 3) := by decide +kernel
theorem dX6_takeReturn_5 : decode cX6_takeReturn 5 = .ok (.astore_n 3, 1) := by decide +kernel
theorem dX6_takeReturn_6 : decode cX6_takeReturn 6 = .ok (.aload_n 0, 1) := by decide +kernel
theorem dX6_takeReturn_7 : decode cX6_takeReturn 7 = .ok (.iload_n 2, 1) := by decide +kernel
theorem dX6_takeReturn_8 : decode cX6_takeReturn 8 = .ok (.invokevirtual 48, 3) := by decide +kernel
theorem dX6_takeReturn_11 : decode cX6_takeReturn 11 = .ok (.astore 4, 2) := by decide +kernel
theorem dX6_takeReturn_13 : decode cX6_takeReturn 13 = .ok (.aload_n 3, 1) := by decide +kernel
theorem dX6_takeReturn_14 : decode cX6_takeReturn 14 = .ok (.getfield 276, 3) := by decide +kernel
theorem dX6_takeReturn_17 : decode cX6_takeReturn 17 = .ok (.bipush 111, 2) := by decide +kernel
theorem dX6_takeReturn_19 : decode cX6_takeReturn 19 = .ok (.if_icmp .ne 14, 3) := by decide +kernel
theorem dX6_takeReturn_22 : decode cX6_takeReturn 22 = .ok (.new 68, 3) := by decide +kernel
theorem dX6_takeReturn_25 : decode cX6_takeReturn 25 = .ok (.dup, 1) := by decide +kernel
theorem dX6_takeReturn_26 : decode cX6_takeReturn 26 = .ok (.ldc_w 323, 3) := by decide +kernel
theorem dX6_takeReturn_29 : decode cX6_takeReturn 29 = .ok (.invokespecial 72, 3) := by decide +kernel
theorem dX6_takeReturn_32 : decode cX6_takeReturn 32 = .ok (.athrow, 1) := by decide +kernel
theorem dX6_takeReturn_33 : decode cX6_takeReturn 33 = .ok (.aload_n 3, 1) := by decide +kernel
theorem dX6_takeReturn_34 : decode cX6_takeReturn 34 = .ok (.iload_n 2, 1) := by decide +kernel
theorem dX6_takeReturn_35 : decode cX6_takeReturn 35 = .ok (.putfield 300, 3) := by decide +kernel
theorem dX6_takeReturn_38 : decode cX6_takeReturn 38 = .ok (.aload_n 3, 1) := by decide +kernel
theorem dX6_takeReturn_39 : decode cX6_takeReturn 39 = .ok (.aload_n 0, 1) := by decide +kernel
theorem dX6_takeReturn_40 : decode cX6_takeReturn 40 = .ok (.getfield 207, 3) := by decide +kernel
theorem dX6_takeReturn_43 : decode cX6_takeReturn 43 = .ok (.iconst 5, 1) := by decide +kernel
theorem dX6_takeReturn_44 : decode cX6_takeReturn 44 = .ok (.iadd, 1) := by decide +kernel
theorem dX6_takeReturn_45 : decode cX6_takeReturn 45 = .ok (.aload 4, 2) := by decide +kernel
theorem dX6_takeReturn_47 : decode cX6_takeReturn 47 = .ok (.getfield 325, 3) := by decide +kernel
theorem dX6_takeReturn_50 : decode cX6_takeReturn 50 = .ok (.getfield 313, 3) := by decide +kernel
theorem dX6_takeReturn_53 : decode cX6_takeReturn 53 = .ok (.iadd, 1) := by decide +kernel
theorem dX6_takeReturn_54 : decode cX6_takeReturn 54 = .ok (.putfield 329, 3) := by decide +kernel
theorem dX6_takeReturn_57 : decode cX6_takeReturn 57 = .ok (.aload_n 3, 1) := by decide +kernel
theorem dX6_takeReturn_58 : decode cX6_takeReturn 58 = .ok (.getfield 329, 3) := by decide +kernel
theorem dX6_takeReturn_61 : decode cX6_takeReturn 61 = .ok (.ireturn, 1) := by decide +kernel
theorem dX6_eat_0 : decode cX6_eat 0 = .ok (.aload_n 0, 1) := by decide +kernel
theorem dX6_eat_1 : decode cX6_eat 1 = .ok (.iload_n 1, 1) := by decide +kernel
theorem dX6_eat_2 : decode cX6_eat 2 = .ok (.invokevirtual 272, 3) := by decide +kernel
theorem dX6_eat_5 : decode cX6_eat 5 = .ok (.astore_n 2, 1) := by decide +kernel
theorem dX6_eat_6 : decode cX6_eat 6 = .ok (.aload_n 2, 1) := by decide +kernel
theorem dX6_eat_7 : decode cX6_eat 7 = .ok (.getfield 276, 3) := by decide +kernel
theorem dX6_eat_10 : decode cX6_eat 10 = .ok (.bipush 112, 2) := by decide +kernel
theorem dX6_eat_12 : decode cX6_eat 12 = .ok (.if_icmp .ne 11, 3) := by decide +kernel
theorem dX6_eat_15 : decode cX6_eat 15 = .ok (.aload_n 2, 1) := by decide +kernel
theorem dX6_eat_16 : decode cX6_eat 16 = .ok (.getfield 284, 3) := by decide +kernel
theorem dX6_eat_19 : decode cX6_eat 19 = .ok (.iconst 5, 1) := by decide +kernel
theorem dX6_eat_20 : decode cX6_eat 20 = .ok (.if_icmp .ge 14, 3) := by decide +kernel
theorem dX6_eat_23 : decode cX6_eat 23 = .ok (.new 68, 3) := by decide +kernel
theorem dX6_eat_26 : decode cX6_eat 26 = .ok (.dup, 1) := by decide +kernel
theorem dX6_eat_27 : decode cX6_eat 27 = .ok (.ldc_w 332, 3) := by decide +kernel
theorem dX6_eat_30 : decode cX6_eat 30 = .ok (.invokespecial 72, 3) := by decide +kernel
theorem dX6_eat_33 : decode cX6_eat 33 = .ok (.athrow, 1) := by decide +kernel
theorem dX6_eat_34 : decode cX6_eat 34 = .ok (.aload_n 2, 1) := by decide +kernel
theorem dX6_eat_35 : decode cX6_eat 35 = .ok (.invokevirtual 334, 3) := by decide +kernel
theorem dX6_eat_38 : decode cX6_eat 38 = .ok (.aload_n 0, 1) := by decide +kernel
theorem dX6_eat_39 : decode cX6_eat 39 = .ok (.dup, 1) := by decide +kernel
theorem dX6_eat_40 : decode cX6_eat 40 = .ok (.getfield 310, 3) := by decide +kernel
theorem dX6_eat_43 : decode cX6_eat 43 = .ok (.ldc2_w 337, 3) := by decide +kernel
theorem dX6_eat_46 : decode cX6_eat 46 = .ok (.ladd, 1) := by decide +kernel
theorem dX6_eat_47 : decode cX6_eat 47 = .ok (.putfield 310, 3) := by decide +kernel
theorem dX6_eat_50 : decode cX6_eat 50 = .ok (.aload_n 2, 1) := by decide +kernel
theorem dX6_eat_51 : decode cX6_eat 51 = .ok (.getfield 339, 3) := by decide +kernel
theorem dX6_eat_54 : decode cX6_eat 54 = .ok (.ireturn, 1) := by decide +kernel
theorem dX6_keeps_0 : decode cX6_keeps 0 = .ok (.aload_n 0, 1) := by decide +kernel
theorem dX6_keeps_1 : decode cX6_keeps 1 = .ok (.iload_n 1, 1) := by decide +kernel
theorem dX6_keeps_2 : decode cX6_keeps 2 = .ok (.invokevirtual 48, 3) := by decide +kernel
theorem dX6_keeps_5 : decode cX6_keeps 5 = .ok (.aload_n 0, 1) := by decide +kernel
theorem dX6_keeps_6 : decode cX6_keeps 6 = .ok (.getfield 199, 3) := by decide +kernel
theorem dX6_keeps_9 : decode cX6_keeps 9 = .ok (.aload_n 0, 1) := by decide +kernel
theorem dX6_keeps_10 : decode cX6_keeps 10 = .ok (.invokevirtual 217, 3) := by decide +kernel
theorem dX6_keeps_13 : decode cX6_keeps 13 = .ok (.invokevirtual 220, 3) := by decide +kernel
theorem dX6_keeps_16 : decode cX6_keeps 16 = .ok (.ireturn, 1) := by decide +kernel
theorem dX6_force_0 : decode cX6_force 0 = .ok (.aload_n 0, 1) := by decide +kernel
theorem dX6_force_1 : decode cX6_force 1 = .ok (.iload_n 1, 1) := by decide +kernel
theorem dX6_force_2 : decode cX6_force 2 = .ok (.invokevirtual 48, 3) := by decide +kernel
theorem dX6_force_5 : decode cX6_force 5 = .ok (.getfield 52, 3) := by decide +kernel
theorem dX6_force_8 : decode cX6_force 8 = .ok (.astore_n 3, 1) := by decide +kernel
theorem dX6_force_9 : decode cX6_force 9 = .ok (.aload_n 3, 1) := by decide +kernel
theorem dX6_force_10 : decode cX6_force 10 = .ok (.iload_n 2, 1) := by decide +kernel
theorem dX6_force_11 : decode cX6_force 11 = .ok (.invokestatic 342, 3) := by decide +kernel
theorem dX6_force_14 : decode cX6_force 14 = .ok (.aload_n 3, 1) := by decide +kernel
theorem dX6_force_15 : decode cX6_force 15 = .ok (.getfield 62, 3) := by decide +kernel
theorem dX6_force_18 : decode cX6_force 18 = .ok (.ifCond .ne 14, 3) := by decide +kernel
theorem dX6_force_21 : decode cX6_force 21 = .ok (.new 68, 3) := by decide +kernel
theorem dX6_force_24 : decode cX6_force 24 = .ok (.dup, 1) := by decide +kernel
theorem dX6_force_25 : decode cX6_force 25 = .ok (.ldc_w 346, 3) := by decide +kernel
theorem dX6_force_28 : decode cX6_force 28 = .ok (.invokespecial 72, 3) := by decide +kernel
theorem dX6_force_31 : decode cX6_force 31 = .ok (.athrow, 1) := by decide +kernel
theorem dX6_force_32 : decode cX6_force 32 = .ok (.aload_n 3, 1) := by decide +kernel
theorem dX6_force_33 : decode cX6_force 33 = .ok (.iload_n 2, 1) := by decide +kernel
theorem dX6_force_34 : decode cX6_force 34 = .ok (.aload_n 0, 1) := by decide +kernel
theorem dX6_force_35 : decode cX6_force 35 = .ok (.getfield 199, 3) := by decide +kernel
theorem dX6_force_38 : decode cX6_force 38 = .ok (.invokevirtual 348, 3) := by decide +kernel
theorem dX6_force_41 : decode cX6_force 41 = .ok (.ireturn, 1) := by decide +kernel
theorem dX6_isHeld_0 : decode cX6_isHeld 0 = .ok (.aload_n 0, 1) := by decide +kernel
theorem dX6_isHeld_1 : decode cX6_isHeld 1 = .ok (.iload_n 1, 1) := by decide +kernel
theorem dX6_isHeld_2 : decode cX6_isHeld 2 = .ok (.invokevirtual 48, 3) := by decide +kernel
theorem dX6_isHeld_5 : decode cX6_isHeld 5 = .ok (.astore_n 3, 1) := by decide +kernel
theorem dX6_isHeld_6 : decode cX6_isHeld 6 = .ok (.aload_n 3, 1) := by decide +kernel
theorem dX6_isHeld_7 : decode cX6_isHeld 7 = .ok (.getfield 52, 3) := by decide +kernel
theorem dX6_isHeld_10 : decode cX6_isHeld 10 = .ok (.iload_n 2, 1) := by decide +kernel
theorem dX6_isHeld_11 : decode cX6_isHeld 11 = .ok (.invokestatic 342, 3) := by decide +kernel
theorem dX6_isHeld_14 : decode cX6_isHeld 14 = .ok (.aload_n 3, 1) := by decide +kernel
theorem dX6_isHeld_15 : decode cX6_isHeld 15 = .ok (.iload_n 2, 1) := by decide +kernel
theorem dX6_isHeld_16 : decode cX6_isHeld 16 = .ok (.invokevirtual 99, 3) := by decide +kernel
theorem dX6_isHeld_19 : decode cX6_isHeld 19 = .ok (.ireturn, 1) := by decide +kernel
theorem dX6_sees_0 : decode cX6_sees 0 = .ok (.aload_n 0, 1) := by decide +kernel
theorem dX6_sees_1 : decode cX6_sees 1 = .ok (.iload_n 1, 1) := by decide +kernel
theorem dX6_sees_2 : decode cX6_sees 2 = .ok (.invokevirtual 48, 3) := by decide +kernel
theorem dX6_sees_5 : decode cX6_sees 5 = .ok (.astore 4, 2) := by decide +kernel
theorem dX6_sees_7 : decode cX6_sees 7 = .ok (.aload 4, 2) := by decide +kernel
theorem dX6_sees_9 : decode cX6_sees 9 = .ok (.getfield 52, 3) := by decide +kernel
theorem dX6_sees_12 : decode cX6_sees 12 = .ok (.iload_n 2, 1) := by decide +kernel
theorem dX6_sees_13 : decode cX6_sees 13 = .ok (.invokestatic 342, 3) := by decide +kernel
theorem dX6_sees_16 : decode cX6_sees 16 = .ok (.iload_n 3, 1) := by decide +kernel
theorem dX6_sees_17 : decode cX6_sees 17 = .ok (.invokestatic 173, 3) := by decide +kernel
theorem dX6_sees_20 : decode cX6_sees 20 = .ok (.aload 4, 2) := by decide +kernel
theorem dX6_sees_22 : decode cX6_sees 22 = .ok (.iload_n 2, 1) := by decide +kernel
theorem dX6_sees_23 : decode cX6_sees 23 = .ok (.iload_n 3, 1) := by decide +kernel
theorem dX6_sees_24 : decode cX6_sees 24 = .ok (.invokevirtual 352, 3) := by decide +kernel
theorem dX6_sees_27 : decode cX6_sees 27 = .ok (.ireturn, 1) := by decide +kernel
theorem dX6_hasTripped_0 : decode cX6_hasTripped 0 = .ok (.aload_n 0, 1) := by decide +kernel
theorem dX6_hasTripped_1 : decode cX6_hasTripped 1 = .ok (.iload_n 1, 1) := by decide +kernel
theorem dX6_hasTripped_2 : decode cX6_hasTripped 2 = .ok (.invokevirtual 48, 3) := by decide +kernel
theorem dX6_hasTripped_5 : decode cX6_hasTripped 5 = .ok (.getfield 186, 3) := by decide +kernel
theorem dX6_hasTripped_8 : decode cX6_hasTripped 8 = .ok (.ireturn, 1) := by decide +kernel
theorem dX6_blockOf_0 : decode cX6_blockOf 0 = .ok (.aload_n 0, 1) := by decide +kernel
theorem dX6_blockOf_1 : decode cX6_blockOf 1 = .ok (.iload_n 1, 1) := by decide +kernel
theorem dX6_blockOf_2 : decode cX6_blockOf 2 = .ok (.invokevirtual 48, 3) := by decide +kernel
theorem dX6_blockOf_5 : decode cX6_blockOf 5 = .ok (.iload_n 2, 1) := by decide +kernel
theorem dX6_blockOf_6 : decode cX6_blockOf 6 = .ok (.invokestatic 233, 3) := by decide +kernel
theorem dX6_blockOf_9 : decode cX6_blockOf 9 = .ok (.getfield 243, 3) := by decide +kernel
theorem dX6_blockOf_12 : decode cX6_blockOf 12 = .ok (.ireturn, 1) := by decide +kernel
theorem dX6_energy_0 : decode cX6_energy 0 = .ok (.aload_n 0, 1) := by decide +kernel
theorem dX6_energy_1 : decode cX6_energy 1 = .ok (.iload_n 1, 1) := by decide +kernel
theorem dX6_energy_2 : decode cX6_energy 2 = .ok (.invokevirtual 48, 3) := by decide +kernel
theorem dX6_energy_5 : decode cX6_energy 5 = .ok (.iload_n 2, 1) := by decide +kernel
theorem dX6_energy_6 : decode cX6_energy 6 = .ok (.invokestatic 233, 3) := by decide +kernel
theorem dX6_energy_9 : decode cX6_energy 9 = .ok (.getfield 355, 3) := by decide +kernel
theorem dX6_energy_12 : decode cX6_energy 12 = .ok (.ireturn, 1) := by decide +kernel
theorem dX6_stateOf_0 : decode cX6_stateOf 0 = .ok (.aload_n 0, 1) := by decide +kernel
theorem dX6_stateOf_1 : decode cX6_stateOf 1 = .ok (.iload_n 1, 1) := by decide +kernel
theorem dX6_stateOf_2 : decode cX6_stateOf 2 = .ok (.invokevirtual 48, 3) := by decide +kernel
theorem dX6_stateOf_5 : decode cX6_stateOf 5 = .ok (.iload_n 2, 1) := by decide +kernel
theorem dX6_stateOf_6 : decode cX6_stateOf 6 = .ok (.invokestatic 233, 3) := by decide +kernel
theorem dX6_stateOf_9 : decode cX6_stateOf 9 = .ok (.getfield 237, 3) := by decide +kernel
theorem dX6_stateOf_12 : decode cX6_stateOf 12 = .ok (.ireturn, 1) := by decide +kernel
theorem dX6_aboard_0 : decode cX6_aboard 0 = .ok (.aload_n 0, 1) := by decide +kernel
theorem dX6_aboard_1 : decode cX6_aboard 1 = .ok (.iload_n 1, 1) := by decide +kernel
theorem dX6_aboard_2 : decode cX6_aboard 2 = .ok (.invokevirtual 48, 3) := by decide +kernel
theorem dX6_aboard_5 : decode cX6_aboard 5 = .ok (.iload_n 2, 1) := by decide +kernel
theorem dX6_aboard_6 : decode cX6_aboard 6 = .ok (.invokestatic 233, 3) := by decide +kernel
theorem dX6_aboard_9 : decode cX6_aboard 9 = .ok (.getfield 358, 3) := by decide +kernel
theorem dX6_aboard_12 : decode cX6_aboard 12 = .ok (.ireturn, 1) := by decide +kernel
theorem dX6_waiting_0 : decode cX6_waiting 0 = .ok (.aload_n 0, 1) := by decide +kernel
theorem dX6_waiting_1 : decode cX6_waiting 1 = .ok (.iload_n 1, 1) := by decide +kernel
theorem dX6_waiting_2 : decode cX6_waiting 2 = .ok (.invokevirtual 48, 3) := by decide +kernel
theorem dX6_waiting_5 : decode cX6_waiting 5 = .ok (.iload_n 2, 1) := by decide +kernel
theorem dX6_waiting_6 : decode cX6_waiting 6 = .ok (.invokestatic 287, 3) := by decide +kernel
theorem dX6_waiting_9 : decode cX6_waiting 9 = .ok (.getfield 313, 3) := by decide +kernel
theorem dX6_waiting_12 : decode cX6_waiting 12 = .ok (.ireturn, 1) := by decide +kernel
theorem dX6_whereIs_0 : decode cX6_whereIs 0 = .ok (.aload_n 0, 1) := by decide +kernel
theorem dX6_whereIs_1 : decode cX6_whereIs 1 = .ok (.iload_n 1, 1) := by decide +kernel
theorem dX6_whereIs_2 : decode cX6_whereIs 2 = .ok (.invokevirtual 272, 3) := by decide +kernel
theorem dX6_whereIs_5 : decode cX6_whereIs 5 = .ok (.getfield 276, 3) := by decide +kernel
theorem dX6_whereIs_8 : decode cX6_whereIs 8 = .ok (.ireturn, 1) := by decide +kernel
theorem dX6_get_0 : decode cX6_get 0 = .ok (.aload_n 0, 1) := by decide +kernel
theorem dX6_get_1 : decode cX6_get 1 = .ok (.iload_n 1, 1) := by decide +kernel
theorem dX6_get_2 : decode cX6_get 2 = .ok (.invokevirtual 272, 3) := by decide +kernel
theorem dX6_get_5 : decode cX6_get 5 = .ok (.astore_n 3, 1) := by decide +kernel
theorem dX6_get_6 : decode cX6_get 6 = .ok (.iload_n 2, 1) := by decide +kernel
theorem dX6_get_7 : decode cX6_get 7 = .ok (.bipush 109, 2) := by decide +kernel
theorem dX6_get_9 : decode cX6_get 9 = .ok (.if_icmp .ne 8, 3) := by decide +kernel
theorem dX6_get_12 : decode cX6_get 12 = .ok (.aload_n 3, 1) := by decide +kernel
theorem dX6_get_13 : decode cX6_get 13 = .ok (.getfield 284, 3) := by decide +kernel
theorem dX6_get_16 : decode cX6_get 16 = .ok (.ireturn, 1) := by decide +kernel
theorem dX6_get_17 : decode cX6_get 17 = .ok (.iload_n 2, 1) := by decide +kernel
theorem dX6_get_18 : decode cX6_get 18 = .ok (.bipush 104, 2) := by decide +kernel
theorem dX6_get_20 : decode cX6_get 20 = .ok (.if_icmp .ne 8, 3) := by decide +kernel
theorem dX6_get_23 : decode cX6_get 23 = .ok (.aload_n 3, 1) := by decide +kernel
theorem dX6_get_24 : decode cX6_get 24 = .ok (.getfield 339, 3) := by decide +kernel
theorem dX6_get_27 : decode cX6_get 27 = .ok (.ireturn, 1) := by decide +kernel
theorem dX6_get_28 : decode cX6_get 28 = .ok (.iload_n 2, 1) := by decide +kernel
theorem dX6_get_29 : decode cX6_get 29 = .ok (.bipush 110, 2) := by decide +kernel
theorem dX6_get_31 : decode cX6_get 31 = .ok (.if_icmp .ne 8, 3) := by decide +kernel
theorem dX6_get_34 : decode cX6_get 34 = .ok (.aload_n 3, 1) := by decide +kernel
theorem dX6_get_35 : decode cX6_get 35 = .ok (.getfield 361, 3) := by decide +kernel
theorem dX6_get_38 : decode cX6_get 38 = .ok (.ireturn, 1) := by decide +kernel
theorem dX6_get_39 : decode cX6_get 39 = .ok (.iload_n 2, 1) := by decide +kernel
theorem dX6_get_40 : decode cX6_get 40 = .ok (.bipush 114, 2) := by decide +kernel
theorem dX6_get_42 : decode cX6_get 42 = .ok (.if_icmp .ne 8, 3) := by decide +kernel
theorem dX6_get_45 : decode cX6_get 45 = .ok (.aload_n 3, 1) := by decide +kernel
theorem dX6_get_46 : decode cX6_get 46 = .ok (.getfield 364, 3) := by decide +kernel
theorem dX6_get_49 : decode cX6_get 49 = .ok (.ireturn, 1) := by decide +kernel
theorem dX6_get_50 : decode cX6_get 50 = .ok (.new 29, 3) := by decide +kernel
theorem dX6_get_53 : decode cX6_get 53 = .ok (.dup, 1) := by decide +kernel
theorem dX6_get_54 : decode cX6_get 54 = .ok (.ldc_w 367, 3) := by decide +kernel
theorem dX6_get_57 : decode cX6_get 57 = .ok (.invokespecial 33, 3) := by decide +kernel
theorem dX6_get_60 : decode cX6_get 60 = .ok (.athrow, 1) := by decide +kernel
theorem dX6_hungriest_0 : decode cX6_hungriest 0 = .ok (.aconst_null, 1) := by decide +kernel
theorem dX6_hungriest_1 : decode cX6_hungriest 1 = .ok (.astore_n 1, 1) := by decide +kernel
theorem dX6_hungriest_2 : decode cX6_hungriest 2 = .ok (.iconst (-1), 1) := by decide +kernel
theorem dX6_hungriest_3 : decode cX6_hungriest 3 = .ok (.istore_n 2, 1) := by decide +kernel
theorem dX6_hungriest_4 : decode cX6_hungriest 4 = .ok (.iconst 0, 1) := by decide +kernel
theorem dX6_hungriest_5 : decode cX6_hungriest 5 = .ok (.istore_n 3, 1) := by decide +kernel
theorem dX6_hungriest_6 : decode cX6_hungriest 6 = .ok (.iload_n 3, 1) := by decide +kernel
theorem dX6_hungriest_7 : decode cX6_hungriest 7 = .ok (.aload_n 0, 1) := by decide +kernel
theorem dX6_hungriest_8 : decode cX6_hungriest 8 = .ok (.getfield 21, 3) := by decide +kernel
theorem dX6_hungriest_11 : decode cX6_hungriest 11 = .ok (.arraylength, 1) := by decide +kernel
theorem dX6_hungriest_12 : decode cX6_hungriest 12 = .ok (.if_icmp .ge 50, 3) := by decide +kernel
theorem dX6_hungriest_15 : decode cX6_hungriest 15 = .ok (.aload_n 0, 1) := by decide +kernel
theorem dX6_hungriest_16 : decode cX6_hungriest 16 = .ok (.getfield 21, 3) := by decide +kernel
theorem dX6_hungriest_19 : decode cX6_hungriest 19 = .ok (.iload_n 3, 1) := by decide +kernel
theorem dX6_hungriest_20 : decode cX6_hungriest 20 = .ok (.aaload, 1) := by decide +kernel
theorem dX6_hungriest_21 : decode cX6_hungriest 21 = .ok (.astore 4, 2) := by decide +kernel
theorem dX6_hungriest_23 : decode cX6_hungriest 23 = .ok (.aload 4, 2) := by decide +kernel
theorem dX6_hungriest_25 : decode cX6_hungriest 25 = .ok (.ifnull 31, 3) := by decide +kernel
theorem dX6_hungriest_28 : decode cX6_hungriest 28 = .ok (.aload 4, 2) := by decide +kernel
theorem dX6_hungriest_30 : decode cX6_hungriest 30 = .ok (.getfield 276, 3) := by decide +kernel
theorem dX6_hungriest_33 : decode cX6_hungriest 33 = .ok (.bipush 112, 2) := by decide +kernel
theorem dX6_hungriest_35 : decode cX6_hungriest 35 = .ok (.if_icmp .ne 21, 3) := by decide +kernel
theorem dX6_hungriest_38 : decode cX6_hungriest 38 = .ok (.aload_n 1, 1) := by decide +kernel
theorem dX6_hungriest_39 : decode cX6_hungriest 39 = .ok (.ifnull 12, 3) := by decide +kernel
theorem dX6_hungriest_42 : decode cX6_hungriest 42 = .ok (.aload 4, 2) := by decide +kernel
theorem dX6_hungriest_44 : decode cX6_hungriest 44 = .ok (.aload_n 1, 1) := by decide +kernel
theorem dX6_hungriest_45 : decode cX6_hungriest 45 = .ok (.invokevirtual 369, 3) := by decide +kernel
theorem dX6_hungriest_48 : decode cX6_hungriest 48 = .ok (.ifCond .eq 8, 3) := by decide +kernel
theorem dX6_hungriest_51 : decode cX6_hungriest 51 = .ok (.aload 4, 2) := by decide +kernel
theorem dX6_hungriest_53 : decode cX6_hungriest 53 = .ok (.astore_n 1, 1) := by decide +kernel
theorem dX6_hungriest_54 : decode cX6_hungriest 54 = .ok (.iload_n 3, 1) := by decide +kernel
theorem dX6_hungriest_55 : decode cX6_hungriest 55 = .ok (.istore_n 2, 1) := by decide +kernel
theorem dX6_hungriest_56 : decode cX6_hungriest 56 = .ok (.iinc 3 1, 3) := by decide +kernel
theorem dX6_hungriest_59 : decode cX6_hungriest 59 = .ok (.goto (-53), 3) := by decide +kernel
theorem dX6_hungriest_62 : decode cX6_hungriest 62 = .ok (.iload_n 2, 1) := by decide +kernel
theorem dX6_hungriest_63 : decode cX6_hungriest 63 = .ok (.iconst (-1), 1) := by decide +kernel
theorem dX6_hungriest_64 : decode cX6_hungriest 64 = .ok (.if_icmp .ne 14, 3) := by decide +kernel
theorem dX6_hungriest_67 : decode cX6_hungriest 67 = .ok (.new 373, 3) := by decide +kernel
theorem dX6_hungriest_70 : decode cX6_hungriest 70 = .ok (.dup, 1) := by decide +kernel
theorem dX6_hungriest_71 : decode cX6_hungriest 71 = .ok (.ldc_w 375, 3) := by decide +kernel
theorem dX6_hungriest_74 : decode cX6_hungriest 74 = .ok (.invokespecial 377, 3) := by decide +kernel
theorem dX6_hungriest_77 : decode cX6_hungriest 77 = .ok (.athrow, 1) := by decide +kernel
theorem dX6_hungriest_78 : decode cX6_hungriest 78 = .ok (.iload_n 2, 1) := by decide +kernel
theorem dX6_hungriest_79 : decode cX6_hungriest 79 = .ok (.ireturn, 1) := by decide +kernel
theorem dX6_cycles_0 : decode cX6_cycles 0 = .ok (.aload_n 0, 1) := by decide +kernel
theorem dX6_cycles_1 : decode cX6_cycles 1 = .ok (.iload_n 1, 1) := by decide +kernel
theorem dX6_cycles_2 : decode cX6_cycles 2 = .ok (.invokevirtual 48, 3) := by decide +kernel
theorem dX6_cycles_5 : decode cX6_cycles 5 = .ok (.getfield 378, 3) := by decide +kernel
theorem dX6_cycles_8 : decode cX6_cycles 8 = .ok (.ireturn, 1) := by decide +kernel
theorem dX6_ticks_0 : decode cX6_ticks 0 = .ok (.aload_n 0, 1) := by decide +kernel
theorem dX6_ticks_1 : decode cX6_ticks 1 = .ok (.getfield 207, 3) := by decide +kernel
theorem dX6_ticks_4 : decode cX6_ticks 4 = .ok (.ireturn, 1) := by decide +kernel
theorem dX6_guests_0 : decode cX6_guests 0 = .ok (.aload_n 0, 1) := by decide +kernel
theorem dX6_guests_1 : decode cX6_guests 1 = .ok (.getfield 262, 3) := by decide +kernel
theorem dX6_guests_4 : decode cX6_guests 4 = .ok (.ireturn, 1) := by decide +kernel
theorem dX6_till_0 : decode cX6_till 0 = .ok (.aload_n 0, 1) := by decide +kernel
theorem dX6_till_1 : decode cX6_till 1 = .ok (.getfield 310, 3) := by decide +kernel
theorem dX6_till_4 : decode cX6_till 4 = .ok (.lreturn, 1) := by decide +kernel
theorem dX6_allMoney_0 : decode cX6_allMoney 0 = .ok (.aload_n 0, 1) := by decide +kernel
theorem dX6_allMoney_1 : decode cX6_allMoney 1 = .ok (.invokevirtual 381, 3) := by decide +kernel
theorem dX6_allMoney_4 : decode cX6_allMoney 4 = .ok (.aload_n 0, 1) := by decide +kernel
theorem dX6_allMoney_5 : decode cX6_allMoney 5 = .ok (.getfield 310, 3) := by decide +kernel
theorem dX6_allMoney_8 : decode cX6_allMoney 8 = .ok (.ladd, 1) := by decide +kernel
theorem dX6_allMoney_9 : decode cX6_allMoney 9 = .ok (.lreturn, 1) := by decide +kernel
theorem dX6_isSound_0 : decode cX6_isSound 0 = .ok (.aload_n 0, 1) := by decide +kernel
theorem dX6_isSound_1 : decode cX6_isSound 1 = .ok (.getfield 11, 3) := by decide +kernel
theorem dX6_isSound_4 : decode cX6_isSound 4 = .ok (.astore_n 1, 1) := by decide +kernel
theorem dX6_isSound_5 : decode cX6_isSound 5 = .ok (.aload_n 1, 1) := by decide +kernel
theorem dX6_isSound_6 : decode cX6_isSound 6 = .ok (.arraylength, 1) := by decide +kernel
theorem dX6_isSound_7 : decode cX6_isSound 7 = .ok (.istore_n 2, 1) := by decide +kernel
theorem dX6_isSound_8 : decode cX6_isSound 8 = .ok (.iconst 0, 1) := by decide +kernel
theorem dX6_isSound_9 : decode cX6_isSound 9 = .ok (.istore_n 3, 1) := by decide +kernel
theorem dX6_isSound_10 : decode cX6_isSound 10 = .ok (.iload_n 3, 1) := by decide +kernel
theorem dX6_isSound_11 : decode cX6_isSound 11 = .ok (.iload_n 2, 1) := by decide +kernel
theorem dX6_isSound_12 : decode cX6_isSound 12 = .ok (.if_icmp .ge 29, 3) := by decide +kernel
theorem dX6_isSound_15 : decode cX6_isSound 15 = .ok (.aload_n 1, 1) := by decide +kernel
theorem dX6_isSound_16 : decode cX6_isSound 16 = .ok (.iload_n 3, 1) := by decide +kernel
theorem dX6_isSound_17 : decode cX6_isSound 17 = .ok (.aaload, 1) := by decide +kernel
theorem dX6_isSound_18 : decode cX6_isSound 18 = .ok (.astore 4, 2) := by decide +kernel
theorem dX6_isSound_20 : decode cX6_isSound 20 = .ok (.aload 4, 2) := by decide +kernel
theorem dX6_isSound_22 : decode cX6_isSound 22 = .ok (.ifnull 13, 3) := by decide +kernel
theorem dX6_isSound_25 : decode cX6_isSound 25 = .ok (.aload 4, 2) := by decide +kernel
theorem dX6_isSound_27 : decode cX6_isSound 27 = .ok (.invokevirtual 396, 3) := by decide +kernel
theorem dX6_isSound_30 : decode cX6_isSound 30 = .ok (.ifCond .ne 5, 3) := by decide +kernel
theorem dX6_isSound_33 : decode cX6_isSound 33 = .ok (.iconst 0, 1) := by decide +kernel
theorem dX6_isSound_34 : decode cX6_isSound 34 = .ok (.ireturn, 1) := by decide +kernel
theorem dX6_isSound_35 : decode cX6_isSound 35 = .ok (.iinc 3 1, 3) := by decide +kernel
theorem dX6_isSound_38 : decode cX6_isSound 38 = .ok (.goto (-28), 3) := by decide +kernel
theorem dX6_isSound_41 : decode cX6_isSound 41 = .ok (.aload_n 0, 1) := by decide +kernel
theorem dX6_isSound_42 : decode cX6_isSound 42 = .ok (.getfield 21, 3) := by decide +kernel
theorem dX6_isSound_45 : decode cX6_isSound 45 = .ok (.astore_n 1, 1) := by decide +kernel
theorem dX6_isSound_46 : decode cX6_isSound 46 = .ok (.aload_n 1, 1) := by decide +kernel
theorem dX6_isSound_47 : decode cX6_isSound 47 = .ok (.arraylength, 1) := by decide +kernel
theorem dX6_isSound_48 : decode cX6_isSound 48 = .ok (.istore_n 2, 1) := by decide +kernel
theorem dX6_isSound_49 : decode cX6_isSound 49 = .ok (.iconst 0, 1) := by decide +kernel
theorem dX6_isSound_50 : decode cX6_isSound 50 = .ok (.istore_n 3, 1) := by decide +kernel
theorem dX6_isSound_51 : decode cX6_isSound 51 = .ok (.iload_n 3, 1) := by decide +kernel
theorem dX6_isSound_52 : decode cX6_isSound 52 = .ok (.iload_n 2, 1) := by decide +kernel
theorem dX6_isSound_53 : decode cX6_isSound 53 = .ok (.if_icmp .ge 30, 3) := by decide +kernel
theorem dX6_isSound_56 : decode cX6_isSound 56 = .ok (.aload_n 1, 1) := by decide +kernel
theorem dX6_isSound_57 : decode cX6_isSound 57 = .ok (.iload_n 3, 1) := by decide +kernel
theorem dX6_isSound_58 : decode cX6_isSound 58 = .ok (.aaload, 1) := by decide +kernel
theorem dX6_isSound_59 : decode cX6_isSound 59 = .ok (.astore 4, 2) := by decide +kernel
theorem dX6_isSound_61 : decode cX6_isSound 61 = .ok (.aload 4, 2) := by decide +kernel
theorem dX6_isSound_63 : decode cX6_isSound 63 = .ok (.ifnull 14, 3) := by decide +kernel
theorem dX6_isSound_66 : decode cX6_isSound 66 = .ok (.aload_n 0, 1) := by decide +kernel
theorem dX6_isSound_67 : decode cX6_isSound 67 = .ok (.aload 4, 2) := by decide +kernel
theorem dX6_isSound_69 : decode cX6_isSound 69 = .ok (.invokevirtual 399, 3) := by decide +kernel
theorem dX6_isSound_72 : decode cX6_isSound 72 = .ok (.ifCond .ne 5, 3) := by decide +kernel
theorem dX6_isSound_75 : decode cX6_isSound 75 = .ok (.iconst 0, 1) := by decide +kernel
theorem dX6_isSound_76 : decode cX6_isSound 76 = .ok (.ireturn, 1) := by decide +kernel
theorem dX6_isSound_77 : decode cX6_isSound 77 = .ok (.iinc 3 1, 3) := by decide +kernel
theorem dX6_isSound_80 : decode cX6_isSound 80 = .ok (.goto (-29), 3) := by decide +kernel
theorem dX6_isSound_83 : decode cX6_isSound 83 = .ok (.aload_n 0, 1) := by decide +kernel
theorem dX6_isSound_84 : decode cX6_isSound 84 = .ok (.getfield 268, 3) := by decide +kernel
theorem dX6_isSound_87 : decode cX6_isSound 87 = .ok (.aload_n 0, 1) := by decide +kernel
theorem dX6_isSound_88 : decode cX6_isSound 88 = .ok (.invokevirtual 381, 3) := by decide +kernel
theorem dX6_isSound_91 : decode cX6_isSound 91 = .ok (.aload_n 0, 1) := by decide +kernel
theorem dX6_isSound_92 : decode cX6_isSound 92 = .ok (.getfield 281, 3) := by decide +kernel
theorem dX6_isSound_95 : decode cX6_isSound 95 = .ok (.ladd, 1) := by decide +kernel
theorem dX6_isSound_96 : decode cX6_isSound 96 = .ok (.aload_n 0, 1) := by decide +kernel
theorem dX6_isSound_97 : decode cX6_isSound 97 = .ok (.getfield 310, 3) := by decide +kernel
theorem dX6_isSound_100 : decode cX6_isSound 100 = .ok (.ladd, 1) := by decide +kernel
theorem dX6_isSound_101 : decode cX6_isSound 101 = .ok (.lcmp, 1) := by decide +kernel
theorem dX6_isSound_102 : decode cX6_isSound 102 = .ok (.ifCond .ne 7, 3) := by decide +kernel
theorem dX6_isSound_105 : decode cX6_isSound 105 = .ok (.iconst 1, 1) := by decide +kernel
theorem dX6_isSound_106 : decode cX6_isSound 106 = .ok (.goto 4, 3) := by decide +kernel
theorem dX6_isSound_109 : decode cX6_isSound 109 = .ok (.iconst 0, 1) := by decide +kernel
theorem dX6_isSound_110 : decode cX6_isSound 110 = .ok (.ireturn, 1) := by decide +kernel
theorem dX6_isWithin_0 : decode cX6_isWithin 0 = .ok (.iload_n 0, 1) := by decide +kernel
theorem dX6_isWithin_1 : decode cX6_isWithin 1 = .ok (.iload_n 1, 1) := by decide +kernel
theorem dX6_isWithin_2 : decode cX6_isWithin 2 = .ok (.if_icmp .lt 12, 3) := by decide +kernel
theorem dX6_isWithin_5 : decode cX6_isWithin 5 = .ok (.iload_n 0, 1) := by decide +kernel
theorem dX6_isWithin_6 : decode cX6_isWithin 6 = .ok (.iload_n 2, 1) := by decide +kernel
theorem dX6_isWithin_7 : decode cX6_isWithin 7 = .ok (.if_icmp .gt 7, 3) := by decide +kernel
theorem dX6_isWithin_10 : decode cX6_isWithin 10 = .ok (.iconst 1, 1) := by decide +kernel
theorem dX6_isWithin_11 : decode cX6_isWithin 11 = .ok (.goto 4, 3) := by decide +kernel
theorem dX6_isWithin_14 : decode cX6_isWithin 14 = .ok (.iconst 0, 1) := by decide +kernel
theorem dX6_isWithin_15 : decode cX6_isWithin 15 = .ok (.ireturn, 1) := by decide +kernel
theorem dX6_isBlock_0 : decode cX6_isBlock 0 = .ok (.iload_n 1, 1) := by decide +kernel
theorem dX6_isBlock_1 : decode cX6_isBlock 1 = .ok (.iconst 1, 1) := by decide +kernel
theorem dX6_isBlock_2 : decode cX6_isBlock 2 = .ok (.bipush 20, 2) := by decide +kernel
theorem dX6_isBlock_4 : decode cX6_isBlock 4 = .ok (.invokestatic 25, 3) := by decide +kernel
theorem dX6_isBlock_7 : decode cX6_isBlock 7 = .ok (.ifCond .eq 24, 3) := by decide +kernel
theorem dX6_isBlock_10 : decode cX6_isBlock 10 = .ok (.iload_n 2, 1) := by decide +kernel
theorem dX6_isBlock_11 : decode cX6_isBlock 11 = .ok (.bipush (-9), 2) := by decide +kernel
theorem dX6_isBlock_13 : decode cX6_isBlock 13 = .ok (.bipush 9, 2) := by decide +kernel
theorem dX6_isBlock_15 : decode cX6_isBlock 15 = .ok (.invokestatic 25, 3) := by decide +kernel
theorem dX6_isBlock_18 : decode cX6_isBlock 18 = .ok (.ifCond .eq 13, 3) := by decide +kernel
theorem dX6_isBlock_21 : decode cX6_isBlock 21 = .ok (.iload_n 3, 1) := by decide +kernel
theorem dX6_isBlock_22 : decode cX6_isBlock 22 = .ok (.iconst 0, 1) := by decide +kernel
theorem dX6_isBlock_23 : decode cX6_isBlock 23 = .ok (.bipush 9, 2) := by decide +kernel
theorem dX6_isBlock_25 : decode cX6_isBlock 25 = .ok (.invokestatic 25, 3) := by decide +kernel
theorem dX6_isBlock_28 : decode cX6_isBlock 28 = .ok (.ifCond .ne 5, 3) := by decide +kernel
theorem dX6_isBlock_31 : decode cX6_isBlock 31 = .ok (.iconst 0, 1) := by decide +kernel
theorem dX6_isBlock_32 : decode cX6_isBlock 32 = .ok (.ireturn, 1) := by decide +kernel
theorem dX6_isBlock_33 : decode cX6_isBlock 33 = .ok (.iload_n 0, 1) := by decide +kernel
theorem dX6_isBlock_34 : decode cX6_isBlock 34 = .ok (.bipush 115, 2) := by decide +kernel
theorem dX6_isBlock_36 : decode cX6_isBlock 36 = .ok (.if_icmp .eq 9, 3) := by decide +kernel
theorem dX6_isBlock_39 : decode cX6_isBlock 39 = .ok (.iload_n 0, 1) := by decide +kernel
theorem dX6_isBlock_40 : decode cX6_isBlock 40 = .ok (.bipush 98, 2) := by decide +kernel
theorem dX6_isBlock_42 : decode cX6_isBlock 42 = .ok (.if_icmp .ne 17, 3) := by decide +kernel
theorem dX6_isBlock_45 : decode cX6_isBlock 45 = .ok (.iload_n 2, 1) := by decide +kernel
theorem dX6_isBlock_46 : decode cX6_isBlock 46 = .ok (.ifCond .ne 11, 3) := by decide +kernel
theorem dX6_isBlock_49 : decode cX6_isBlock 49 = .ok (.iload_n 3, 1) := by decide +kernel
theorem dX6_isBlock_50 : decode cX6_isBlock 50 = .ok (.ifCond .ne 7, 3) := by decide +kernel
theorem dX6_isBlock_53 : decode cX6_isBlock 53 = .ok (.iconst 1, 1) := by decide +kernel
theorem dX6_isBlock_54 : decode cX6_isBlock 54 = .ok (.goto 4, 3) := by decide +kernel
theorem dX6_isBlock_57 : decode cX6_isBlock 57 = .ok (.iconst 0, 1) := by decide +kernel
theorem dX6_isBlock_58 : decode cX6_isBlock 58 = .ok (.ireturn, 1) := by decide +kernel
theorem dX6_isBlock_59 : decode cX6_isBlock 59 = .ok (.iload_n 0, 1) := by decide +kernel
theorem dX6_isBlock_60 : decode cX6_isBlock 60 = .ok (.bipush 108, 2) := by decide +kernel
theorem dX6_isBlock_62 : decode cX6_isBlock 62 = .ok (.if_icmp .eq 9, 3) := by decide +kernel
theorem dX6_isBlock_65 : decode cX6_isBlock 65 = .ok (.iload_n 0, 1) := by decide +kernel
theorem dX6_isBlock_66 : decode cX6_isBlock 66 = .ok (.bipush 116, 2) := by decide +kernel
theorem dX6_isBlock_68 : decode cX6_isBlock 68 = .ok (.if_icmp .ne 7, 3) := by decide +kernel
theorem dX6_isBlock_71 : decode cX6_isBlock 71 = .ok (.iconst 1, 1) := by decide +kernel
theorem dX6_isBlock_72 : decode cX6_isBlock 72 = .ok (.goto 4, 3) := by decide +kernel
theorem dX6_isBlock_75 : decode cX6_isBlock 75 = .ok (.iconst 0, 1) := by decide +kernel
theorem dX6_isBlock_76 : decode cX6_isBlock 76 = .ok (.ireturn, 1) := by decide +kernel
theorem dX6_rideAt_0 : decode cX6_rideAt 0 = .ok (.iload_n 1, 1) := by decide +kernel
theorem dX6_rideAt_1 : decode cX6_rideAt 1 = .ok (.ifCond .lt 21, 3) := by decide +kernel
theorem dX6_rideAt_4 : decode cX6_rideAt 4 = .ok (.iload_n 1, 1) := by decide +kernel
theorem dX6_rideAt_5 : decode cX6_rideAt 5 = .ok (.aload_n 0, 1) := by decide +kernel
theorem dX6_rideAt_6 : decode cX6_rideAt 6 = .ok (.getfield 11, 3) := by decide +kernel
theorem dX6_rideAt_9 : decode cX6_rideAt 9 = .ok (.arraylength, 1) := by decide +kernel
theorem dX6_rideAt_10 : decode cX6_rideAt 10 = .ok (.if_icmp .ge 12, 3) := by decide +kernel
theorem dX6_rideAt_13 : decode cX6_rideAt 13 = .ok (.aload_n 0, 1) := by decide +kernel
theorem dX6_rideAt_14 : decode cX6_rideAt 14 = .ok (.getfield 11, 3) := by decide +kernel
theorem dX6_rideAt_17 : decode cX6_rideAt 17 = .ok (.iload_n 1, 1) := by decide +kernel
theorem dX6_rideAt_18 : decode cX6_rideAt 18 = .ok (.aaload, 1) := by decide +kernel
theorem dX6_rideAt_19 : decode cX6_rideAt 19 = .ok (.goto 4, 3) := by decide +kernel
theorem dX6_rideAt_22 : decode cX6_rideAt 22 = .ok (.aconst_null, 1) := by decide +kernel
theorem dX6_rideAt_23 : decode cX6_rideAt 23 = .ok (.astore_n 2, 1) := by decide +kernel
theorem dX6_rideAt_24 : decode cX6_rideAt 24 = .ok (.aload_n 2, 1) := by decide +kernel
theorem dX6_rideAt_25 : decode cX6_rideAt 25 = .ok (.ifnonnull 14, 3) := by decide +kernel
theorem dX6_rideAt_28 : decode cX6_rideAt 28 = .ok (.new 402, 3) := by decide +kernel
theorem dX6_rideAt_31 : decode cX6_rideAt 31 = .ok (.dup, 1) := by decide +kernel
theorem dX6_rideAt_32 : decode cX6_rideAt 32 = .ok (.ldc_w 404, 3) := by decide +kernel
theorem dX6_rideAt_35 : decode cX6_rideAt 35 = .ok (.invokespecial 406, 3) := by decide +kernel
theorem dX6_rideAt_38 : decode cX6_rideAt 38 = .ok (.athrow, 1) := by decide +kernel
theorem dX6_rideAt_39 : decode cX6_rideAt 39 = .ok (.aload_n 2, 1) := by decide +kernel
theorem dX6_rideAt_40 : decode cX6_rideAt 40 = .ok (.areturn, 1) := by decide +kernel
theorem dX6_blockAt_0 : decode cX6_blockAt 0 = .ok (.aload_n 0, 1) := by decide +kernel
theorem dX6_blockAt_1 : decode cX6_blockAt 1 = .ok (.getfield 52, 3) := by decide +kernel
theorem dX6_blockAt_4 : decode cX6_blockAt 4 = .ok (.iload_n 1, 1) := by decide +kernel
theorem dX6_blockAt_5 : decode cX6_blockAt 5 = .ok (.invokevirtual 407, 3) := by decide +kernel
theorem dX6_blockAt_8 : decode cX6_blockAt 8 = .ok (.astore_n 2, 1) := by decide +kernel
theorem dX6_blockAt_9 : decode cX6_blockAt 9 = .ok (.aload_n 2, 1) := by decide +kernel
theorem dX6_blockAt_10 : decode cX6_blockAt 10 = .ok (.ifnonnull 13, 3) := by decide +kernel
theorem dX6_blockAt_13 : decode cX6_blockAt 13 = .ok (.new 402, 3) := by decide +kernel
theorem dX6_blockAt_16 : decode cX6_blockAt 16 = .ok (.dup, 1) := by decide +kernel
theorem dX6_blockAt_17 : decode cX6_blockAt 17 = .ok (.ldc 60, 2) := by decide +kernel
theorem dX6_blockAt_19 : decode cX6_blockAt 19 = .ok (.invokespecial 406, 3) := by decide +kernel
theorem dX6_blockAt_22 : decode cX6_blockAt 22 = .ok (.athrow, 1) := by decide +kernel
theorem dX6_blockAt_23 : decode cX6_blockAt 23 = .ok (.aload_n 2, 1) := by decide +kernel
theorem dX6_blockAt_24 : decode cX6_blockAt 24 = .ok (.areturn, 1) := by decide +kernel
theorem dX6_checkBlock_0 : decode cX6_checkBlock 0 = .ok (.aload_n 0, 1) := by decide +kernel
theorem dX6_checkBlock_1 : decode cX6_checkBlock 1 = .ok (.iload_n 1, 1) := by decide +kernel
theorem dX6_checkBlock_2 : decode cX6_checkBlock 2 = .ok (.invokevirtual 407, 3) := by decide +kernel
theorem dX6_checkBlock_5 : decode cX6_checkBlock 5 = .ok (.ifnonnull 13, 3) := by decide +kernel
theorem dX6_checkBlock_8 : decode cX6_checkBlock 8 = .ok (.new 402, 3) := by decide +kernel
theorem dX6_checkBlock_11 : decode cX6_checkBlock 11 = .ok (.dup, 1) := by decide +kernel
theorem dX6_checkBlock_12 : decode cX6_checkBlock 12 = .ok (.ldc 60, 2) := by decide +kernel
theorem dX6_checkBlock_14 : decode cX6_checkBlock 14 = .ok (.invokespecial 406, 3) := by decide +kernel
theorem dX6_checkBlock_17 : decode cX6_checkBlock 17 = .ok (.athrow, 1) := by decide +kernel
theorem dX6_checkBlock_18 : decode cX6_checkBlock 18 = .ok (.return_, 1) := by decide +kernel
theorem dX6_checkProcessor_0 : decode cX6_checkProcessor 0 = .ok (.iload_n 0, 1) := by decide +kernel
theorem dX6_checkProcessor_1 : decode cX6_checkProcessor 1 = .ok (.ifCond .eq 19, 3) := by decide +kernel
theorem dX6_checkProcessor_4 : decode cX6_checkProcessor 4 = .ok (.iload_n 0, 1) := by decide +kernel
theorem dX6_checkProcessor_5 : decode cX6_checkProcessor 5 = .ok (.iconst 1, 1) := by decide +kernel
theorem dX6_checkProcessor_6 : decode cX6_checkProcessor 6 = .ok (.if_icmp .eq 14, 3) := by decide +kernel
theorem dX6_checkProcessor_9 : decode cX6_checkProcessor 9 = .ok (.new 402, 3) := by decide +kernel
theorem dX6_checkProcessor_12 : decode cX6_checkProcessor 12 = .ok (.dup, 1) := by decide +kernel
theorem dX6_checkProcessor_13 : decode cX6_checkProcessor 13 = .ok (.ldc_w 411, 3) := by decide +kernel
theorem dX6_checkProcessor_16 : decode cX6_checkProcessor 16 = .ok (.invokespecial 406, 3) := by decide +kernel
theorem dX6_checkProcessor_19 : decode cX6_checkProcessor 19 = .ok (.athrow, 1) := by decide +kernel
theorem dX6_checkProcessor_20 : decode cX6_checkProcessor 20 = .ok (.return_, 1) := by decide +kernel
theorem dX6_trainAt_0 : decode cX6_trainAt 0 = .ok (.aload_n 0, 1) := by decide +kernel
theorem dX6_trainAt_1 : decode cX6_trainAt 1 = .ok (.iload_n 1, 1) := by decide +kernel
theorem dX6_trainAt_2 : decode cX6_trainAt 2 = .ok (.invokevirtual 413, 3) := by decide +kernel
theorem dX6_trainAt_5 : decode cX6_trainAt 5 = .ok (.astore_n 2, 1) := by decide +kernel
theorem dX6_trainAt_6 : decode cX6_trainAt 6 = .ok (.aload_n 2, 1) := by decide +kernel
theorem dX6_trainAt_7 : decode cX6_trainAt 7 = .ok (.ifnonnull 14, 3) := by decide +kernel
theorem dX6_trainAt_10 : decode cX6_trainAt 10 = .ok (.new 402, 3) := by decide +kernel
theorem dX6_trainAt_13 : decode cX6_trainAt 13 = .ok (.dup, 1) := by decide +kernel
theorem dX6_trainAt_14 : decode cX6_trainAt 14 = .ok (.ldc_w 417, 3) := by decide +kernel
theorem dX6_trainAt_17 : decode cX6_trainAt 17 = .ok (.invokespecial 406, 3) := by decide +kernel
theorem dX6_trainAt_20 : decode cX6_trainAt 20 = .ok (.athrow, 1) := by decide +kernel
theorem dX6_trainAt_21 : decode cX6_trainAt 21 = .ok (.aload_n 2, 1) := by decide +kernel
theorem dX6_trainAt_22 : decode cX6_trainAt 22 = .ok (.areturn, 1) := by decide +kernel
theorem dX6_lineAt_0 : decode cX6_lineAt 0 = .ok (.aload_n 0, 1) := by decide +kernel
theorem dX6_lineAt_1 : decode cX6_lineAt 1 = .ok (.iload_n 1, 1) := by decide +kernel
theorem dX6_lineAt_2 : decode cX6_lineAt 2 = .ok (.invokevirtual 419, 3) := by decide +kernel
theorem dX6_lineAt_5 : decode cX6_lineAt 5 = .ok (.astore_n 2, 1) := by decide +kernel
theorem dX6_lineAt_6 : decode cX6_lineAt 6 = .ok (.aload_n 2, 1) := by decide +kernel
theorem dX6_lineAt_7 : decode cX6_lineAt 7 = .ok (.ifnonnull 14, 3) := by decide +kernel
theorem dX6_lineAt_10 : decode cX6_lineAt 10 = .ok (.new 29, 3) := by decide +kernel
theorem dX6_lineAt_13 : decode cX6_lineAt 13 = .ok (.dup, 1) := by decide +kernel
theorem dX6_lineAt_14 : decode cX6_lineAt 14 = .ok (.ldc_w 423, 3) := by decide +kernel
theorem dX6_lineAt_17 : decode cX6_lineAt 17 = .ok (.invokespecial 33, 3) := by decide +kernel
theorem dX6_lineAt_20 : decode cX6_lineAt 20 = .ok (.athrow, 1) := by decide +kernel
theorem dX6_lineAt_21 : decode cX6_lineAt 21 = .ok (.aload_n 2, 1) := by decide +kernel
theorem dX6_lineAt_22 : decode cX6_lineAt 22 = .ok (.areturn, 1) := by decide +kernel
theorem dX6_guestAt_0 : decode cX6_guestAt 0 = .ok (.iload_n 1, 1) := by decide +kernel
theorem dX6_guestAt_1 : decode cX6_guestAt 1 = .ok (.ifCond .lt 21, 3) := by decide +kernel
theorem dX6_guestAt_4 : decode cX6_guestAt 4 = .ok (.iload_n 1, 1) := by decide +kernel
theorem dX6_guestAt_5 : decode cX6_guestAt 5 = .ok (.aload_n 0, 1) := by decide +kernel
theorem dX6_guestAt_6 : decode cX6_guestAt 6 = .ok (.getfield 21, 3) := by decide +kernel
theorem dX6_guestAt_9 : decode cX6_guestAt 9 = .ok (.arraylength, 1) := by decide +kernel
theorem dX6_guestAt_10 : decode cX6_guestAt 10 = .ok (.if_icmp .ge 12, 3) := by decide +kernel
theorem dX6_guestAt_13 : decode cX6_guestAt 13 = .ok (.aload_n 0, 1) := by decide +kernel
theorem dX6_guestAt_14 : decode cX6_guestAt 14 = .ok (.getfield 21, 3) := by decide +kernel
theorem dX6_guestAt_17 : decode cX6_guestAt 17 = .ok (.iload_n 1, 1) := by decide +kernel
theorem dX6_guestAt_18 : decode cX6_guestAt 18 = .ok (.aaload, 1) := by decide +kernel
theorem dX6_guestAt_19 : decode cX6_guestAt 19 = .ok (.goto 4, 3) := by decide +kernel
theorem dX6_guestAt_22 : decode cX6_guestAt 22 = .ok (.aconst_null, 1) := by decide +kernel
theorem dX6_guestAt_23 : decode cX6_guestAt 23 = .ok (.astore_n 2, 1) := by decide +kernel
theorem dX6_guestAt_24 : decode cX6_guestAt 24 = .ok (.aload_n 2, 1) := by decide +kernel
theorem dX6_guestAt_25 : decode cX6_guestAt 25 = .ok (.ifnonnull 14, 3) := by decide +kernel
theorem dX6_guestAt_28 : decode cX6_guestAt 28 = .ok (.new 402, 3) := by decide +kernel
theorem dX6_guestAt_31 : decode cX6_guestAt 31 = .ok (.dup, 1) := by decide +kernel
theorem dX6_guestAt_32 : decode cX6_guestAt 32 = .ok (.ldc_w 425, 3) := by decide +kernel
theorem dX6_guestAt_35 : decode cX6_guestAt 35 = .ok (.invokespecial 406, 3) := by decide +kernel
theorem dX6_guestAt_38 : decode cX6_guestAt 38 = .ok (.athrow, 1) := by decide +kernel
theorem dX6_guestAt_39 : decode cX6_guestAt 39 = .ok (.aload_n 2, 1) := by decide +kernel
theorem dX6_guestAt_40 : decode cX6_guestAt 40 = .ok (.areturn, 1) := by decide +kernel
theorem dX6_checkMember_0 : decode cX6_checkMember 0 = .ok (.iload_n 1, 1) := by decide +kernel
theorem dX6_checkMember_1 : decode cX6_checkMember 1 = .ok (.ifCond .lt 11, 3) := by decide +kernel
theorem dX6_checkMember_4 : decode cX6_checkMember 4 = .ok (.iload_n 1, 1) := by decide +kernel
theorem dX6_checkMember_5 : decode cX6_checkMember 5 = .ok (.aload_n 0, 1) := by decide +kernel
theorem dX6_checkMember_6 : decode cX6_checkMember 6 = .ok (.getfield 124, 3) := by decide +kernel
theorem dX6_checkMember_9 : decode cX6_checkMember 9 = .ok (.if_icmp .lt 14, 3) := by decide +kernel
theorem dX6_checkMember_12 : decode cX6_checkMember 12 = .ok (.new 402, 3) := by decide +kernel
theorem dX6_checkMember_15 : decode cX6_checkMember 15 = .ok (.dup, 1) := by decide +kernel
theorem dX6_checkMember_16 : decode cX6_checkMember 16 = .ok (.ldc_w 427, 3) := by decide +kernel
theorem dX6_checkMember_19 : decode cX6_checkMember 19 = .ok (.invokespecial 406, 3) := by decide +kernel
theorem dX6_checkMember_22 : decode cX6_checkMember 22 = .ok (.athrow, 1) := by decide +kernel
theorem dX6_checkMember_23 : decode cX6_checkMember 23 = .ok (.return_, 1) := by decide +kernel
theorem dX6_isCertified_0 : decode cX6_isCertified 0 = .ok (.iload_n 1, 1) := by decide +kernel
theorem dX6_isCertified_1 : decode cX6_isCertified 1 = .ok (.ifCond .lt 29, 3) := by decide +kernel
theorem dX6_isCertified_4 : decode cX6_isCertified 4 = .ok (.iload_n 1, 1) := by decide +kernel
theorem dX6_isCertified_5 : decode cX6_isCertified 5 = .ok (.aload_n 0, 1) := by decide +kernel
theorem dX6_isCertified_6 : decode cX6_isCertified 6 = .ok (.getfield 15, 3) := by decide +kernel
theorem dX6_isCertified_9 : decode cX6_isCertified 9 = .ok (.arraylength, 1) := by decide +kernel
theorem dX6_isCertified_10 : decode cX6_isCertified 10 = .ok (.if_icmp .ge 20, 3) := by decide +kernel
theorem dX6_isCertified_13 : decode cX6_isCertified 13 = .ok (.aload_n 0, 1) := by decide +kernel
theorem dX6_isCertified_14 : decode cX6_isCertified 14 = .ok (.getfield 15, 3) := by decide +kernel
theorem dX6_isCertified_17 : decode cX6_isCertified 17 = .ok (.iload_n 1, 1) := by decide +kernel
theorem dX6_isCertified_18 : decode cX6_isCertified 18 = .ok (.iaload, 1) := by decide +kernel
theorem dX6_isCertified_19 : decode cX6_isCertified 19 = .ok (.iconst 1, 1) := by decide +kernel
theorem dX6_isCertified_20 : decode cX6_isCertified 20 = .ok (.iload_n 2, 1) := by decide +kernel
theorem dX6_isCertified_21 : decode cX6_isCertified 21 = .ok (.ishl, 1) := by decide +kernel
theorem dX6_isCertified_22 : decode cX6_isCertified 22 = .ok (.iand, 1) := by decide +kernel
theorem dX6_isCertified_23 : decode cX6_isCertified 23 = .ok (.ifCond .eq 7, 3) := by decide +kernel
theorem dX6_isCertified_26 : decode cX6_isCertified 26 = .ok (.iconst 1, 1) := by decide +kernel
theorem dX6_isCertified_27 : decode cX6_isCertified 27 = .ok (.goto 4, 3) := by decide +kernel
theorem dX6_isCertified_30 : decode cX6_isCertified 30 = .ok (.iconst 0, 1) := by decide +kernel
theorem dX6_isCertified_31 : decode cX6_isCertified 31 = .ok (.ireturn, 1) := by decide +kernel
theorem dX6_operatesAnother_0 : decode cX6_operatesAnother 0 = .ok (.aload_n 0, 1) := by decide +kernel
theorem dX6_operatesAnother_1 : decode cX6_operatesAnother 1 = .ok (.getfield 11, 3) := by decide +kernel
theorem dX6_operatesAnother_4 : decode cX6_operatesAnother 4 = .ok (.astore_n 3, 1) := by decide +kernel
theorem dX6_operatesAnother_5 : decode cX6_operatesAnother 5 = .ok (.aload_n 3, 1) := by decide +kernel
theorem dX6_operatesAnother_6 : decode cX6_operatesAnother 6 = .ok (.arraylength, 1) := by decide +kernel
theorem dX6_operatesAnother_7 : decode cX6_operatesAnother 7 = .ok (.istore 4, 2) := by decide +kernel
theorem dX6_operatesAnother_9 : decode cX6_operatesAnother 9 = .ok (.iconst 0, 1) := by decide +kernel
theorem dX6_operatesAnother_10 : decode cX6_operatesAnother 10 = .ok (.istore 5, 2) := by decide +kernel
theorem dX6_operatesAnother_12 : decode cX6_operatesAnother 12 = .ok (.iload 5, 2) := by decide +kernel
theorem dX6_operatesAnother_14 : decode cX6_operatesAnother 14 = .ok (.iload 4, 2) := by decide +kernel
theorem dX6_operatesAnother_16 : decode cX6_operatesAnother 16 = .ok (.if_icmp .ge 37, 3) := by decide +kernel
theorem dX6_operatesAnother_19 : decode cX6_operatesAnother 19 = .ok (.aload_n 3, 1) := by decide +kernel
theorem dX6_operatesAnother_20 : decode cX6_operatesAnother 20 = .ok (.iload 5, 2) := by decide +kernel
theorem dX6_operatesAnother_22 : decode cX6_operatesAnother 22 = .ok (.aaload, 1) := by decide +kernel
theorem dX6_operatesAnother_23 : decode cX6_operatesAnother 23 = .ok (.astore 6, 2) := by decide +kernel
theorem dX6_operatesAnother_25 : decode cX6_operatesAnother 25 = .ok (.aload 6, 2) := by decide +kernel
theorem dX6_operatesAnother_27 : decode cX6_operatesAnother 27 = .ok (.ifnull 20, 3) := by decide +kernel
theorem dX6_operatesAnother_30 : decode cX6_operatesAnother 30 = .ok (.aload 6, 2) := by decide +kernel
theorem dX6_operatesAnother_32 : decode cX6_operatesAnother 32 = .ok (.aload_n 2, 1) := by decide +kernel
theorem dX6_operatesAnother_33 : decode cX6_operatesAnother 33 = .ok (.if_acmp .eq 14, 3) := by decide +kernel
theorem dX6_operatesAnother_36 : decode cX6_operatesAnother 36 = .ok (.aload 6, 2) := by decide +kernel
theorem dX6_operatesAnother_38 : decode cX6_operatesAnother 38 = .ok (.getfield 142, 3) := by decide +kernel
theorem dX6_operatesAnother_41 : decode cX6_operatesAnother 41 = .ok (.iload_n 1, 1) := by decide +kernel
theorem dX6_operatesAnother_42 : decode cX6_operatesAnother 42 = .ok (.if_icmp .ne 5, 3) := by decide +kernel
theorem dX6_operatesAnother_45 : decode cX6_operatesAnother 45 = .ok (.iconst 1, 1) := by decide +kernel
theorem dX6_operatesAnother_46 : decode cX6_operatesAnother 46 = .ok (.ireturn, 1) := by decide +kernel
theorem dX6_operatesAnother_47 : decode cX6_operatesAnother 47 = .ok (.iinc 5 1, 3) := by decide +kernel
theorem dX6_operatesAnother_50 : decode cX6_operatesAnother 50 = .ok (.goto (-38), 3) := by decide +kernel
theorem dX6_operatesAnother_53 : decode cX6_operatesAnother 53 = .ok (.iconst 0, 1) := by decide +kernel
theorem dX6_operatesAnother_54 : decode cX6_operatesAnother 54 = .ok (.ireturn, 1) := by decide +kernel
theorem dX6_isLightningNear_0 : decode cX6_isLightningNear 0 = .ok (.aload_n 0, 1) := by decide +kernel
theorem dX6_isLightningNear_1 : decode cX6_isLightningNear 1 = .ok (.getfield 204, 3) := by decide +kernel
theorem dX6_isLightningNear_4 : decode cX6_isLightningNear 4 = .ok (.ifCond .eq 21, 3) := by decide +kernel
theorem dX6_isLightningNear_7 : decode cX6_isLightningNear 7 = .ok (.aload_n 0, 1) := by decide +kernel
theorem dX6_isLightningNear_8 : decode cX6_isLightningNear 8 = .ok (.getfield 207, 3) := by decide +kernel
theorem dX6_isLightningNear_11 : decode cX6_isLightningNear 11 = .ok (.aload_n 0, 1) := by decide +kernel
theorem dX6_isLightningNear_12 : decode cX6_isLightningNear 12 = .ok (.getfield 210, 3) := by decide +kernel
theorem dX6_isLightningNear_15 : decode cX6_isLightningNear 15 = .ok (.isub, 1) := by decide +kernel
theorem dX6_isLightningNear_16 : decode cX6_isLightningNear 16 = .ok (.bipush 15, 2) := by decide +kernel
theorem dX6_isLightningNear_18 : decode cX6_isLightningNear 18 = .ok (.if_icmp .gt 7, 3) := by decide +kernel
theorem dX6_isLightningNear_21 : decode cX6_isLightningNear 21 = .ok (.iconst 1, 1) := by decide +kernel
theorem dX6_isLightningNear_22 : decode cX6_isLightningNear 22 = .ok (.goto 4, 3) := by decide +kernel
theorem dX6_isLightningNear_25 : decode cX6_isLightningNear 25 = .ok (.iconst 0, 1) := by decide +kernel
theorem dX6_isLightningNear_26 : decode cX6_isLightningNear 26 = .ok (.ireturn, 1) := by decide +kernel
theorem dX6_letGuestsRecover_0 : decode cX6_letGuestsRecover 0 = .ok (.aload_n 0, 1) := by decide +kernel
theorem dX6_letGuestsRecover_1 : decode cX6_letGuestsRecover 1 = .ok (.getfield 21, 3) := by decide +kernel
theorem dX6_letGuestsRecover_4 : decode cX6_letGuestsRecover 4 = .ok (.astore_n 1, 1) := by decide +kernel
theorem dX6_letGuestsRecover_5 : decode cX6_letGuestsRecover 5 = .ok (.aload_n 1, 1) := by decide +kernel
theorem dX6_letGuestsRecover_6 : decode cX6_letGuestsRecover 6 = .ok (.arraylength, 1) := by decide +kernel
theorem dX6_letGuestsRecover_7 : decode cX6_letGuestsRecover 7 = .ok (.istore_n 2, 1) := by decide +kernel
theorem dX6_letGuestsRecover_8 : decode cX6_letGuestsRecover 8 = .ok (.iconst 0, 1) := by decide +kernel
theorem dX6_letGuestsRecover_9 : decode cX6_letGuestsRecover 9 = .ok (.istore_n 3, 1) := by decide +kernel
theorem dX6_letGuestsRecover_10 : decode cX6_letGuestsRecover 10 = .ok (.iload_n 3, 1) := by decide +kernel
theorem dX6_letGuestsRecover_11 : decode cX6_letGuestsRecover 11 = .ok (.iload_n 2, 1) := by decide +kernel
theorem dX6_letGuestsRecover_12 : decode cX6_letGuestsRecover 12 = .ok (.if_icmp .ge 48, 3) := by decide +kernel
theorem dX6_letGuestsRecover_15 : decode cX6_letGuestsRecover 15 = .ok (.aload_n 1, 1) := by decide +kernel
theorem dX6_letGuestsRecover_16 : decode cX6_letGuestsRecover 16 = .ok (.iload_n 3, 1) := by decide +kernel
theorem dX6_letGuestsRecover_17 : decode cX6_letGuestsRecover 17 = .ok (.aaload, 1) := by decide +kernel
theorem dX6_letGuestsRecover_18 : decode cX6_letGuestsRecover 18 = .ok (.astore 4, 2) := by decide +kernel
theorem dX6_letGuestsRecover_20 : decode cX6_letGuestsRecover 20 = .ok (.aload 4, 2) := by decide +kernel
theorem dX6_letGuestsRecover_22 : decode cX6_letGuestsRecover 22 = .ok (.ifnull 32, 3) := by decide +kernel
theorem dX6_letGuestsRecover_25 : decode cX6_letGuestsRecover 25 = .ok (.aload 4, 2) := by decide +kernel
theorem dX6_letGuestsRecover_27 : decode cX6_letGuestsRecover 27 = .ok (.getfield 276, 3) := by decide +kernel
theorem dX6_letGuestsRecover_30 : decode cX6_letGuestsRecover 30 = .ok (.bipush 112, 2) := by decide +kernel
theorem dX6_letGuestsRecover_32 : decode cX6_letGuestsRecover 32 = .ok (.if_icmp .ne 22, 3) := by decide +kernel
theorem dX6_letGuestsRecover_35 : decode cX6_letGuestsRecover 35 = .ok (.aload 4, 2) := by decide +kernel
theorem dX6_letGuestsRecover_37 : decode cX6_letGuestsRecover 37 = .ok (.getfield 361, 3) := by decide +kernel
theorem dX6_letGuestsRecover_40 : decode cX6_letGuestsRecover 40 = .ok (.ifCond .le 14, 3) := by decide +kernel
theorem dX6_letGuestsRecover_43 : decode cX6_letGuestsRecover 43 = .ok (.aload 4, 2) := by decide +kernel
theorem dX6_letGuestsRecover_45 : decode cX6_letGuestsRecover 45 = .ok (.dup, 1) := by decide +kernel
theorem dX6_letGuestsRecover_46 : decode cX6_letGuestsRecover 46 = .ok (.getfield 361, 3) := by decide +kernel
theorem dX6_letGuestsRecover_49 : decode cX6_letGuestsRecover 49 = .ok (.iconst 1, 1) := by decide +kernel
theorem dX6_letGuestsRecover_50 : decode cX6_letGuestsRecover 50 = .ok (.isub, 1) := by decide +kernel
theorem dX6_letGuestsRecover_51 : decode cX6_letGuestsRecover 51 = .ok (.putfield 361, 3) := by decide +kernel
theorem dX6_letGuestsRecover_54 : decode cX6_letGuestsRecover 54 = .ok (.iinc 3 1, 3) := by decide +kernel
theorem dX6_letGuestsRecover_57 : decode cX6_letGuestsRecover 57 = .ok (.goto (-47), 3) := by decide +kernel
theorem dX6_letGuestsRecover_60 : decode cX6_letGuestsRecover 60 = .ok (.return_, 1) := by decide +kernel
theorem dX6_moneyOfGuestsInside_0 : decode cX6_moneyOfGuestsInside 0 = .ok (.lconst 0, 1) := by decide +kernel
theorem dX6_moneyOfGuestsInside_1 : decode cX6_moneyOfGuestsInside 1 = .ok (.lstore_n 1, 1) := by decide +kernel
theorem dX6_moneyOfGuestsInside_2 : decode cX6_moneyOfGuestsInside 2 = .ok (.aload_n 0, 1) := by decide +kernel
theorem dX6_moneyOfGuestsInside_3 : decode cX6_moneyOfGuestsInside 3 = .ok (.getfield 21, 3) := by decide +kernel
theorem dX6_moneyOfGuestsInside_6 : decode cX6_moneyOfGuestsInside 6 = .ok (.astore_n 3, 1) := by decide +kernel
theorem dX6_moneyOfGuestsInside_7 : decode cX6_moneyOfGuestsInside 7 = .ok (.aload_n 3, 1) := by decide +kernel
theorem dX6_moneyOfGuestsInside_8 : decode cX6_moneyOfGuestsInside 8 = .ok (.arraylength, 1) := by decide +kernel
theorem dX6_moneyOfGuestsInside_9 : decode cX6_moneyOfGuestsInside 9 = .ok (.istore 4, 2) := by decide +kernel
theorem dX6_moneyOfGuestsInside_11 : decode cX6_moneyOfGuestsInside 11 = .ok (.iconst 0, 1) := by decide +kernel
theorem dX6_moneyOfGuestsInside_12 : decode cX6_moneyOfGuestsInside 12 = .ok (.istore 5, 2) := by decide +kernel
theorem dX6_moneyOfGuestsInside_14 : decode cX6_moneyOfGuestsInside 14 = .ok (.iload 5, 2) := by decide +kernel
theorem dX6_moneyOfGuestsInside_16 : decode cX6_moneyOfGuestsInside 16 = .ok (.iload 4, 2) := by decide +kernel
theorem dX6_moneyOfGuestsInside_18 : decode cX6_moneyOfGuestsInside 18 = .ok (.if_icmp .ge 39, 3) := by decide +kernel
theorem dX6_moneyOfGuestsInside_21 : decode cX6_moneyOfGuestsInside 21 = .ok (.aload_n 3, 1) := by decide +kernel
theorem dX6_moneyOfGuestsInside_22 : decode cX6_moneyOfGuestsInside 22 = .ok (.iload 5, 2) := by decide +kernel
theorem dX6_moneyOfGuestsInside_24 : decode cX6_moneyOfGuestsInside 24 = .ok (.aaload, 1) := by decide +kernel
theorem dX6_moneyOfGuestsInside_25 : decode cX6_moneyOfGuestsInside 25 = .ok (.astore 6, 2) := by decide +kernel
theorem dX6_moneyOfGuestsInside_27 : decode cX6_moneyOfGuestsInside 27 = .ok (.aload 6, 2) := by decide +kernel
theorem dX6_moneyOfGuestsInside_29 : decode cX6_moneyOfGuestsInside 29 = .ok (.ifnull 22, 3) := by decide +kernel
theorem dX6_moneyOfGuestsInside_32 : decode cX6_moneyOfGuestsInside 32 = .ok (.aload 6, 2) := by decide +kernel
theorem dX6_moneyOfGuestsInside_34 : decode cX6_moneyOfGuestsInside 34 = .ok (.getfield 276, 3) := by decide +kernel
theorem dX6_moneyOfGuestsInside_37 : decode cX6_moneyOfGuestsInside 37 = .ok (.bipush 111, 2) := by decide +kernel
theorem dX6_moneyOfGuestsInside_39 : decode cX6_moneyOfGuestsInside 39 = .ok (.if_icmp .eq 12, 3) := by decide +kernel
theorem dX6_moneyOfGuestsInside_42 : decode cX6_moneyOfGuestsInside 42 = .ok (.lload_n 1, 1) := by decide +kernel
theorem dX6_moneyOfGuestsInside_43 : decode cX6_moneyOfGuestsInside 43 = .ok (.aload 6, 2) := by decide +kernel
theorem dX6_moneyOfGuestsInside_45 : decode cX6_moneyOfGuestsInside 45 = .ok (.getfield 284, 3) := by decide +kernel
theorem dX6_moneyOfGuestsInside_48 : decode cX6_moneyOfGuestsInside 48 = .ok (.i2l, 1) := by decide +kernel
theorem dX6_moneyOfGuestsInside_49 : decode cX6_moneyOfGuestsInside 49 = .ok (.ladd, 1) := by decide +kernel
theorem dX6_moneyOfGuestsInside_50 : decode cX6_moneyOfGuestsInside 50 = .ok (.lstore_n 1, 1) := by decide +kernel
theorem dX6_moneyOfGuestsInside_51 : decode cX6_moneyOfGuestsInside 51 = .ok (.iinc 5 1, 3) := by decide +kernel
theorem dX6_moneyOfGuestsInside_54 : decode cX6_moneyOfGuestsInside 54 = .ok (.goto (-40), 3) := by decide +kernel
theorem dX6_moneyOfGuestsInside_57 : decode cX6_moneyOfGuestsInside 57 = .ok (.lload_n 1, 1) := by decide +kernel
theorem dX6_moneyOfGuestsInside_58 : decode cX6_moneyOfGuestsInside 58 = .ok (.lreturn, 1) := by decide +kernel
theorem dX6_isInOnePlace_0 : decode cX6_isInOnePlace 0 = .ok (.iconst 0, 1) := by decide +kernel
theorem dX6_isInOnePlace_1 : decode cX6_isInOnePlace 1 = .ok (.istore_n 2, 1) := by decide +kernel
theorem dX6_isInOnePlace_2 : decode cX6_isInOnePlace 2 = .ok (.iconst 0, 1) := by decide +kernel
theorem dX6_isInOnePlace_3 : decode cX6_isInOnePlace 3 = .ok (.istore_n 3, 1) := by decide +kernel
theorem dX6_isInOnePlace_4 : decode cX6_isInOnePlace 4 = .ok (.aload_n 0, 1) := by decide +kernel
theorem dX6_isInOnePlace_5 : decode cX6_isInOnePlace 5 = .ok (.getfield 11, 3) := by decide +kernel
theorem dX6_isInOnePlace_8 : decode cX6_isInOnePlace 8 = .ok (.astore 4, 2) := by decide +kernel
theorem dX6_isInOnePlace_10 : decode cX6_isInOnePlace 10 = .ok (.aload 4, 2) := by decide +kernel
theorem dX6_isInOnePlace_12 : decode cX6_isInOnePlace 12 = .ok (.arraylength, 1) := by decide +kernel
theorem dX6_isInOnePlace_13 : decode cX6_isInOnePlace 13 = .ok (.istore 5, 2) := by decide +kernel
theorem dX6_isInOnePlace_15 : decode cX6_isInOnePlace 15 = .ok (.iconst 0, 1) := by decide +kernel
theorem dX6_isInOnePlace_16 : decode cX6_isInOnePlace 16 = .ok (.istore 6, 2) := by decide +kernel
theorem dX6_isInOnePlace_18 : decode cX6_isInOnePlace 18 = .ok (.iload 6, 2) := by decide +kernel
theorem dX6_isInOnePlace_20 : decode cX6_isInOnePlace 20 = .ok (.iload 5, 2) := by decide +kernel
theorem dX6_isInOnePlace_22 : decode cX6_isInOnePlace 22 = .ok (.if_icmp .ge 39, 3) := by decide +kernel
theorem dX6_isInOnePlace_25 : decode cX6_isInOnePlace 25 = .ok (.aload 4, 2) := by decide +kernel
theorem dX6_isInOnePlace_27 : decode cX6_isInOnePlace 27 = .ok (.iload 6, 2) := by decide +kernel
theorem dX6_isInOnePlace_29 : decode cX6_isInOnePlace 29 = .ok (.aaload, 1) := by decide +kernel
theorem dX6_isInOnePlace_30 : decode cX6_isInOnePlace 30 = .ok (.astore 7, 2) := by decide +kernel
theorem dX6_isInOnePlace_32 : decode cX6_isInOnePlace 32 = .ok (.aload 7, 2) := by decide +kernel
theorem dX6_isInOnePlace_34 : decode cX6_isInOnePlace 34 = .ok (.ifnull 21, 3) := by decide +kernel
theorem dX6_isInOnePlace_37 : decode cX6_isInOnePlace 37 = .ok (.iload_n 2, 1) := by decide +kernel
theorem dX6_isInOnePlace_38 : decode cX6_isInOnePlace 38 = .ok (.aload 7, 2) := by decide +kernel
theorem dX6_isInOnePlace_40 : decode cX6_isInOnePlace 40 = .ok (.aload_n 1, 1) := by decide +kernel
theorem dX6_isInOnePlace_41 : decode cX6_isInOnePlace 41 = .ok (.invokevirtual 429, 3) := by decide +kernel
theorem dX6_isInOnePlace_44 : decode cX6_isInOnePlace 44 = .ok (.iadd, 1) := by decide +kernel
theorem dX6_isInOnePlace_45 : decode cX6_isInOnePlace 45 = .ok (.istore_n 2, 1) := by decide +kernel
theorem dX6_isInOnePlace_46 : decode cX6_isInOnePlace 46 = .ok (.iload_n 3, 1) := by decide +kernel
theorem dX6_isInOnePlace_47 : decode cX6_isInOnePlace 47 = .ok (.aload 7, 2) := by decide +kernel
theorem dX6_isInOnePlace_49 : decode cX6_isInOnePlace 49 = .ok (.aload_n 1, 1) := by decide +kernel
theorem dX6_isInOnePlace_50 : decode cX6_isInOnePlace 50 = .ok (.invokevirtual 433, 3) := by decide +kernel
theorem dX6_isInOnePlace_53 : decode cX6_isInOnePlace 53 = .ok (.iadd, 1) := by decide +kernel
theorem dX6_isInOnePlace_54 : decode cX6_isInOnePlace 54 = .ok (.istore_n 3, 1) := by decide +kernel
theorem dX6_isInOnePlace_55 : decode cX6_isInOnePlace 55 = .ok (.iinc 6 1, 3) := by decide +kernel
theorem dX6_isInOnePlace_58 : decode cX6_isInOnePlace 58 = .ok (.goto (-40), 3) := by decide +kernel
theorem dX6_isInOnePlace_61 : decode cX6_isInOnePlace 61 = .ok (.iload_n 2, 1) := by decide +kernel
theorem dX6_isInOnePlace_62 : decode cX6_isInOnePlace 62 = .ok (.aload_n 1, 1) := by decide +kernel
theorem dX6_isInOnePlace_63 : decode cX6_isInOnePlace 63 = .ok (.getfield 276, 3) := by decide +kernel
theorem dX6_isInOnePlace_66 : decode cX6_isInOnePlace 66 = .ok (.bipush 113, 2) := by decide +kernel
theorem dX6_isInOnePlace_68 : decode cX6_isInOnePlace 68 = .ok (.if_icmp .ne 7, 3) := by decide +kernel
theorem dX6_isInOnePlace_71 : decode cX6_isInOnePlace 71 = .ok (.iconst 1, 1) := by decide +kernel
theorem dX6_isInOnePlace_72 : decode cX6_isInOnePlace 72 = .ok (.goto 4, 3) := by decide +kernel
theorem dX6_isInOnePlace_75 : decode cX6_isInOnePlace 75 = .ok (.iconst 0, 1) := by decide +kernel
theorem dX6_isInOnePlace_76 : decode cX6_isInOnePlace 76 = .ok (.if_icmp .ne 25, 3) := by decide +kernel
theorem dX6_isInOnePlace_79 : decode cX6_isInOnePlace 79 = .ok (.iload_n 3, 1) := by decide +kernel
theorem dX6_isInOnePlace_80 : decode cX6_isInOnePlace 80 = .ok (.aload_n 1, 1) := by decide +kernel
theorem dX6_isInOnePlace_81 : decode cX6_isInOnePlace 81 = .ok (.getfield 276, 3) := by decide +kernel
theorem dX6_isInOnePlace_84 : decode cX6_isInOnePlace 84 = .ok (.bipush 116, 2) := by decide +kernel
theorem dX6_isInOnePlace_86 : decode cX6_isInOnePlace 86 = .ok (.if_icmp .ne 7, 3) := by decide +kernel
theorem dX6_isInOnePlace_89 : decode cX6_isInOnePlace 89 = .ok (.iconst 1, 1) := by decide +kernel
theorem dX6_isInOnePlace_90 : decode cX6_isInOnePlace 90 = .ok (.goto 4, 3) := by decide +kernel
theorem dX6_isInOnePlace_93 : decode cX6_isInOnePlace 93 = .ok (.iconst 0, 1) := by decide +kernel
theorem dX6_isInOnePlace_94 : decode cX6_isInOnePlace 94 = .ok (.if_icmp .ne 7, 3) := by decide +kernel
theorem dX6_isInOnePlace_97 : decode cX6_isInOnePlace 97 = .ok (.iconst 1, 1) := by decide +kernel
theorem dX6_isInOnePlace_98 : decode cX6_isInOnePlace 98 = .ok (.goto 4, 3) := by decide +kernel
theorem dX6_isInOnePlace_101 : decode cX6_isInOnePlace 101 = .ok (.iconst 0, 1) := by decide +kernel
theorem dX6_isInOnePlace_102 : decode cX6_isInOnePlace 102 = .ok (.ireturn, 1) := by decide +kernel
theorem dJx00060_init_a7421_0 : decode cJx00060_init_a7421 0 = .ok (.aload_n 0, 1) := by decide +kernel
theorem dJx00060_init_a7421_1 : decode cJx00060_init_a7421 1 = .ok (.aload_n 1, 1) := by decide +kernel
theorem dJx00060_init_a7421_2 : decode cJx00060_init_a7421 2 = .ok (.invokespecial 7, 3) := by decide +kernel
theorem dJx00060_init_a7421_5 : decode cJx00060_init_a7421 5 = .ok (.return_, 1) := by decide +kernel
theorem dJ6_bitCount_0f7a4_0 : decode cJ6_bitCount_0f7a4 0 = .ok (.iload_n 0, 1) := by decide +kernel
theorem dJ6_bitCount_0f7a4_1 : decode cJ6_bitCount_0f7a4 1 = .ok (.iload_n 0, 1) := by decide +kernel
theorem dJ6_bitCount_0f7a4_2 : decode cJ6_bitCount_0f7a4 2 = .ok (.iconst 1, 1) := by decide +kernel
theorem dJ6_bitCount_0f7a4_3 : decode cJ6_bitCount_0f7a4 3 = .ok (.iushr, 1) := by decide +kernel
theorem dJ6_bitCount_0f7a4_4 : decode cJ6_bitCount_0f7a4 4 = .ok (.ldc_w 265, 3) := by decide +kernel
theorem dJ6_bitCount_0f7a4_7 : decode cJ6_bitCount_0f7a4 7 = .ok (.iand, 1) := by decide +kernel
theorem dJ6_bitCount_0f7a4_8 : decode cJ6_bitCount_0f7a4 8 = .ok (.isub, 1) := by decide +kernel
theorem dJ6_bitCount_0f7a4_9 : decode cJ6_bitCount_0f7a4 9 = .ok (.istore_n 0, 1) := by decide +kernel
theorem dJ6_bitCount_0f7a4_10 : decode cJ6_bitCount_0f7a4 10 = .ok (.iload_n 0, 1) := by decide +kernel
theorem dJ6_bitCount_0f7a4_11 : decode cJ6_bitCount_0f7a4 11 = .ok (.ldc_w 266, 3) := by decide +kernel
theorem dJ6_bitCount_0f7a4_14 : decode cJ6_bitCount_0f7a4 14 = .ok (.iand, 1) := by decide +kernel
theorem dJ6_bitCount_0f7a4_15 : decode cJ6_bitCount_0f7a4 15 = .ok (.iload_n 0, 1) := by decide +kernel
theorem dJ6_bitCount_0f7a4_16 : decode cJ6_bitCount_0f7a4 16 = .ok (.iconst 2, 1) := by decide +kernel
theorem dJ6_bitCount_0f7a4_17 : decode cJ6_bitCount_0f7a4 17 = .ok (.iushr, 1) := by decide +kernel
theorem dJ6_bitCount_0f7a4_18 : decode cJ6_bitCount_0f7a4 18 = .ok (.ldc_w 266, 3) := by decide +kernel
theorem dJ6_bitCount_0f7a4_21 : decode cJ6_bitCount_0f7a4 21 = .ok (.iand, 1) := by decide +kernel
theorem dJ6_bitCount_0f7a4_22 : decode cJ6_bitCount_0f7a4 22 = .ok (.iadd, 1) := by decide +kernel
theorem dJ6_bitCount_0f7a4_23 : decode cJ6_bitCount_0f7a4 23 = .ok (.istore_n 0, 1) := by decide +kernel
theorem dJ6_bitCount_0f7a4_24 : decode cJ6_bitCount_0f7a4 24 = .ok (.iload_n 0, 1) := by decide +kernel
theorem dJ6_bitCount_0f7a4_25 : decode cJ6_bitCount_0f7a4 25 = .ok (.iload_n 0, 1) := by decide +kernel
theorem dJ6_bitCount_0f7a4_26 : decode cJ6_bitCount_0f7a4 26 = .ok (.iconst 4, 1) := by decide +kernel
theorem dJ6_bitCount_0f7a4_27 : decode cJ6_bitCount_0f7a4 27 = .ok (.iushr, 1) := by decide +kernel
theorem dJ6_bitCount_0f7a4_28 : decode cJ6_bitCount_0f7a4 28 = .ok (.iadd, 1) := by decide +kernel
theorem dJ6_bitCount_0f7a4_29 : decode cJ6_bitCount_0f7a4 29 = .ok (.ldc_w 267, 3) := by decide +kernel
theorem dJ6_bitCount_0f7a4_32 : decode cJ6_bitCount_0f7a4 32 = .ok (.iand, 1) := by decide +kernel
theorem dJ6_bitCount_0f7a4_33 : decode cJ6_bitCount_0f7a4 33 = .ok (.istore_n 0, 1) := by decide +kernel
theorem dJ6_bitCount_0f7a4_34 : decode cJ6_bitCount_0f7a4 34 = .ok (.iload_n 0, 1) := by decide +kernel
theorem dJ6_bitCount_0f7a4_35 : decode cJ6_bitCount_0f7a4 35 = .ok (.iload_n 0, 1) := by decide +kernel
theorem dJ6_bitCount_0f7a4_36 : decode cJ6_bitCount_0f7a4 36 = .ok (.bipush 8, 2) := by decide +kernel
theorem dJ6_bitCount_0f7a4_38 : decode cJ6_bitCount_0f7a4 38 = .ok (.iushr, 1) := by decide +kernel
theorem dJ6_bitCount_0f7a4_39 : decode cJ6_bitCount_0f7a4 39 = .ok (.iadd, 1) := by decide +kernel
theorem dJ6_bitCount_0f7a4_40 : decode cJ6_bitCount_0f7a4 40 = .ok (.istore_n 0, 1) := by decide +kernel
theorem dJ6_bitCount_0f7a4_41 : decode cJ6_bitCount_0f7a4 41 = .ok (.iload_n 0, 1) := by decide +kernel
theorem dJ6_bitCount_0f7a4_42 : decode cJ6_bitCount_0f7a4 42 = .ok (.iload_n 0, 1) := by decide +kernel
theorem dJ6_bitCount_0f7a4_43 : decode cJ6_bitCount_0f7a4 43 = .ok (.bipush 16, 2) := by decide +kernel
theorem dJ6_bitCount_0f7a4_45 : decode cJ6_bitCount_0f7a4 45 = .ok (.iushr, 1) := by decide +kernel
theorem dJ6_bitCount_0f7a4_46 : decode cJ6_bitCount_0f7a4 46 = .ok (.iadd, 1) := by decide +kernel
theorem dJ6_bitCount_0f7a4_47 : decode cJ6_bitCount_0f7a4 47 = .ok (.istore_n 0, 1) := by decide +kernel
theorem dJ6_bitCount_0f7a4_48 : decode cJ6_bitCount_0f7a4 48 = .ok (.iload_n 0, 1) := by decide +kernel
theorem dJ6_bitCount_0f7a4_49 : decode cJ6_bitCount_0f7a4 49 = .ok (.bipush 63, 2) := by decide +kernel
theorem dJ6_bitCount_0f7a4_51 : decode cJ6_bitCount_0f7a4 51 = .ok (.iand, 1) := by decide +kernel
theorem dJ6_bitCount_0f7a4_52 : decode cJ6_bitCount_0f7a4 52 = .ok (.ireturn, 1) := by decide +kernel
theorem dJ9_max_7cf53_0 : decode cJ9_max_7cf53 0 = .ok (.iload_n 0, 1) := by decide +kernel
theorem dJ9_max_7cf53_1 : decode cJ9_max_7cf53 1 = .ok (.iload_n 1, 1) := by decide +kernel
theorem dJ9_max_7cf53_2 : decode cJ9_max_7cf53 2 = .ok (.if_icmp .lt 7, 3) := by decide +kernel
theorem dJ9_max_7cf53_5 : decode cJ9_max_7cf53 5 = .ok (.iload_n 0, 1) := by decide +kernel
theorem dJ9_max_7cf53_6 : decode cJ9_max_7cf53 6 = .ok (.goto 4, 3) := by decide +kernel
theorem dJ9_max_7cf53_9 : decode cJ9_max_7cf53 9 = .ok (.iload_n 1, 1) := by decide +kernel
theorem dJ9_max_7cf53_10 : decode cJ9_max_7cf53 10 = .ok (.ireturn, 1) := by decide +kernel
theorem dJ9_min_7cf53_0 : decode cJ9_min_7cf53 0 = .ok (.iload_n 0, 1) := by decide +kernel
theorem dJ9_min_7cf53_1 : decode cJ9_min_7cf53 1 = .ok (.iload_n 1, 1) := by decide +kernel
theorem dJ9_min_7cf53_2 : decode cJ9_min_7cf53 2 = .ok (.if_icmp .gt 7, 3) := by decide +kernel
theorem dJ9_min_7cf53_5 : decode cJ9_min_7cf53 5 = .ok (.iload_n 0, 1) := by decide +kernel
theorem dJ9_min_7cf53_6 : decode cJ9_min_7cf53 6 = .ok (.goto 4, 3) := by decide +kernel
theorem dJ9_min_7cf53_9 : decode cJ9_min_7cf53 9 = .ok (.iload_n 1, 1) := by decide +kernel
theorem dJ9_min_7cf53_10 : decode cJ9_min_7cf53 10 = .ok (.ireturn, 1) := by decide +kernel
theorem dJ0_charAt_5068e_0 : decode cJ0_charAt_5068e 0 = .ok (.aload_n 0, 1) := by decide +kernel
theorem dJ0_charAt_5068e_1 : decode cJ0_charAt_5068e 1 = .ok (.invokevirtual 492, 3) := by decide +kernel
theorem dJ0_charAt_5068e_4 : decode cJ0_charAt_5068e 4 = .ok (.ifCond .eq 12, 3) := by decide +kernel
theorem dJ0_charAt_5068e_7 : decode cJ0_charAt_5068e 7 = .ok (.aload_n 0, 1) := by decide +kernel
theorem dJ0_charAt_5068e_8 : decode cJ0_charAt_5068e 8 = .ok (.getfield 9, 3) := by decide +kernel
theorem dJ0_charAt_5068e_11 : decode cJ0_charAt_5068e 11 = .ok (.iload_n 1, 1) := by decide +kernel
theorem dJ0_charAt_5068e_12 : decode cJ0_charAt_5068e 12 = .ok (.invokestatic 495, 3) := by decide +kernel
theorem dJ0_charAt_5068e_15 : decode cJ0_charAt_5068e 15 = .ok (.ireturn, 1) := by decide +kernel
theorem dJ0_charAt_5068e_16 : decode cJ0_charAt_5068e 16 = .ok (.aload_n 0, 1) := by decide +kernel
theorem dJ0_charAt_5068e_17 : decode cJ0_charAt_5068e 17 = .ok (.getfield 9, 3) := by decide +kernel
theorem dJ0_charAt_5068e_20 : decode cJ0_charAt_5068e 20 = .ok (.iload_n 1, 1) := by decide +kernel
theorem dJ0_charAt_5068e_21 : decode cJ0_charAt_5068e 21 = .ok (.invokestatic 498, 3) := by decide +kernel
theorem dJ0_charAt_5068e_24 : decode cJ0_charAt_5068e 24 = .ok (.ireturn, 1) := by decide +kernel
theorem dJ0_isLatin1_aae02_0 : decode cJ0_isLatin1_aae02 0 = .ok (.getstatic 38, 3) := by decide +kernel
theorem dJ0_isLatin1_aae02_3 : decode cJ0_isLatin1_aae02 3 = .ok (.ifCond .eq 14, 3) := by decide +kernel
theorem dJ0_isLatin1_aae02_6 : decode cJ0_isLatin1_aae02 6 = .ok (.aload_n 0, 1) := by decide +kernel
theorem dJ0_isLatin1_aae02_7 : decode cJ0_isLatin1_aae02 7 = .ok (.getfield 15, 3) := by decide +kernel
theorem dJ0_isLatin1_aae02_10 : decode cJ0_isLatin1_aae02 10 = .ok (.ifCond .ne 7, 3) := by decide +kernel
theorem dJ0_isLatin1_aae02_13 : decode cJ0_isLatin1_aae02 13 = .ok (.iconst 1, 1) := by decide +kernel
theorem dJ0_isLatin1_aae02_14 : decode cJ0_isLatin1_aae02 14 = .ok (.goto 4, 3) := by decide +kernel
theorem dJ0_isLatin1_aae02_17 : decode cJ0_isLatin1_aae02 17 = .ok (.iconst 0, 1) := by decide +kernel
theorem dJ0_isLatin1_aae02_18 : decode cJ0_isLatin1_aae02 18 = .ok (.ireturn, 1) := by decide +kernel
theorem dJ0_checkIndex_df160_0 : decode cJ0_checkIndex_df160 0 = .ok (.iload_n 0, 1) := by decide +kernel
theorem dJ0_checkIndex_df160_1 : decode cJ0_checkIndex_df160 1 = .ok (.iload_n 1, 1) := by decide +kernel
theorem dJ0_checkIndex_df160_2 : decode cJ0_checkIndex_df160 2 = .ok (.getstatic 1053, 3) := by decide +kernel
theorem dJ0_checkIndex_df160_5 : decode cJ0_checkIndex_df160 5 = .ok (.invokestatic 1059, 3) := by decide +kernel
theorem dJ0_checkIndex_df160_8 : decode cJ0_checkIndex_df160 8 = .ok (.pop, 1) := by decide +kernel
theorem dJ0_checkIndex_df160_9 : decode cJ0_checkIndex_df160 9 = .ok (.return_, 1) := by decide +kernel
theorem dJ1_charAt_3b067_0 : decode cJ1_charAt_3b067 0 = .ok (.iload_n 1, 1) := by decide +kernel
theorem dJ1_charAt_3b067_1 : decode cJ1_charAt_3b067 1 = .ok (.aload_n 0, 1) := by decide +kernel
theorem dJ1_charAt_3b067_2 : decode cJ1_charAt_3b067 2 = .ok (.arraylength, 1) := by decide +kernel
theorem dJ1_charAt_3b067_3 : decode cJ1_charAt_3b067 3 = .ok (.invokestatic 9, 3) := by decide +kernel
theorem dJ1_charAt_3b067_6 : decode cJ1_charAt_3b067 6 = .ok (.aload_n 0, 1) := by decide +kernel
theorem dJ1_charAt_3b067_7 : decode cJ1_charAt_3b067 7 = .ok (.iload_n 1, 1) := by decide +kernel
theorem dJ1_charAt_3b067_8 : decode cJ1_charAt_3b067 8 = .ok (.baload, 1) := by decide +kernel
theorem dJ1_charAt_3b067_9 : decode cJ1_charAt_3b067 9 = .ok (.sipush 255, 3) := by decide +kernel
theorem dJ1_charAt_3b067_12 : decode cJ1_charAt_3b067 12 = .ok (.iand, 1) := by decide +kernel
theorem dJ1_charAt_3b067_13 : decode cJ1_charAt_3b067 13 = .ok (.i2c, 1) := by decide +kernel
theorem dJ1_charAt_3b067_14 : decode cJ1_charAt_3b067 14 = .ok (.ireturn, 1) := by decide +kernel
theorem dJ2_getChar_3b067_0 : decode cJ2_getChar_3b067 0 = .ok (.getstatic 44, 3) := by decide +kernel
theorem dJ2_getChar_3b067_3 : decode cJ2_getChar_3b067 3 = .ok (.ifCond .ne 25, 3) := by decide +kernel
theorem dJ2_getChar_3b067_6 : decode cJ2_getChar_3b067 6 = .ok (.iload_n 1, 1) := by decide +kernel
theorem dJ2_getChar_3b067_7 : decode cJ2_getChar_3b067 7 = .ok (.ifCond .lt 11, 3) := by decide +kernel
theorem dJ2_getChar_3b067_10 : decode cJ2_getChar_3b067 10 = .ok (.iload_n 1, 1) := by decide +kernel
theorem dJ2_getChar_3b067_11 : decode cJ2_getChar_3b067 11 = .ok (.aload_n 0, 1) := by decide +kernel
theorem dJ2_getChar_3b067_12 : decode cJ2_getChar_3b067 12 = .ok (.invokestatic 48, 3) := by decide +kernel
theorem dJ2_getChar_3b067_15 : decode cJ2_getChar_3b067 15 = .ok (.if_icmp .lt 13, 3) := by decide +kernel
theorem dJ2_getChar_3b067_18 : decode cJ2_getChar_3b067 18 = .ok (.new 52, 3) := by decide +kernel
theorem dJ2_getChar_3b067_21 : decode cJ2_getChar_3b067 21 = .ok (.dup, 1) := by decide +kernel
theorem dJ2_getChar_3b067_22 : decode cJ2_getChar_3b067 22 = .ok (.ldc 54, 2) := by decide +kernel
theorem dJ2_getChar_3b067_24 : decode cJ2_getChar_3b067 24 = .ok (.invokespecial 56, 3) := by decide +kernel
theorem dJ2_getChar_3b067_27 : decode cJ2_getChar_3b067 27 = .ok (.athrow, 1) := by decide +kernel
theorem dJ2_getChar_3b067_28 : decode cJ2_getChar_3b067 28 = .ok (.iload_n 1, 1) := by decide +kernel
theorem dJ2_getChar_3b067_29 : decode cJ2_getChar_3b067 29 = .ok (.iconst 1, 1) := by decide +kernel
theorem dJ2_getChar_3b067_30 : decode cJ2_getChar_3b067 30 = .ok (.ishl, 1) := by decide +kernel
theorem dJ2_getChar_3b067_31 : decode cJ2_getChar_3b067 31 = .ok (.istore_n 1, 1) := by decide +kernel
theorem dJ2_getChar_3b067_32 : decode cJ2_getChar_3b067 32 = .ok (.aload_n 0, 1) := by decide +kernel
theorem dJ2_getChar_3b067_33 : decode cJ2_getChar_3b067 33 = .ok (.iload_n 1, 1) := by decide +kernel
theorem dJ2_getChar_3b067_34 : decode cJ2_getChar_3b067 34 = .ok (.iinc 1 1, 3) := by decide +kernel
theorem dJ2_getChar_3b067_37 : decode cJ2_getChar_3b067 37 = .ok (.baload, 1) := by decide +kernel
theorem dJ2_getChar_3b067_38 : decode cJ2_getChar_3b067 38 = .ok (.sipush 255, 3) := by decide +kernel
theorem dJ2_getChar_3b067_41 : decode cJ2_getChar_3b067 41 = .ok (.iand, 1) := by decide +kernel
theorem dJ2_getChar_3b067_42 : decode cJ2_getChar_3b067 42 = .ok (.getstatic 59, 3) := by decide +kernel
theorem dJ2_getChar_3b067_45 : decode cJ2_getChar_3b067 45 = .ok (.ishl, 1) := by decide +kernel
theorem dJ2_getChar_3b067_46 : decode cJ2_getChar_3b067 46 = .ok (.aload_n 0, 1) := by decide +kernel
theorem dJ2_getChar_3b067_47 : decode cJ2_getChar_3b067 47 = .ok (.iload_n 1, 1) := by decide +kernel
theorem dJ2_getChar_3b067_48 : decode cJ2_getChar_3b067 48 = .ok (.baload, 1) := by decide +kernel
theorem dJ2_getChar_3b067_49 : decode cJ2_getChar_3b067 49 = .ok (.sipush 255, 3) := by decide +kernel
theorem dJ2_getChar_3b067_52 : decode cJ2_getChar_3b067 52 = .ok (.iand, 1) := by decide +kernel
theorem dJ2_getChar_3b067_53 : decode cJ2_getChar_3b067 53 = .ok (.getstatic 63, 3) := by decide +kernel
theorem dJ2_getChar_3b067_56 : decode cJ2_getChar_3b067 56 = .ok (.ishl, 1) := by decide +kernel
theorem dJ2_getChar_3b067_57 : decode cJ2_getChar_3b067 57 = .ok (.ior, 1) := by decide +kernel
theorem dJ2_getChar_3b067_58 : decode cJ2_getChar_3b067 58 = .ok (.i2c, 1) := by decide +kernel
theorem dJ2_getChar_3b067_59 : decode cJ2_getChar_3b067 59 = .ok (.ireturn, 1) := by decide +kernel
theorem dJ2_length_9d52b_0 : decode cJ2_length_9d52b 0 = .ok (.aload_n 0, 1) := by decide +kernel
theorem dJ2_length_9d52b_1 : decode cJ2_length_9d52b 1 = .ok (.arraylength, 1) := by decide +kernel
theorem dJ2_length_9d52b_2 : decode cJ2_length_9d52b 2 = .ok (.iconst 1, 1) := by decide +kernel
theorem dJ2_length_9d52b_3 : decode cJ2_length_9d52b 3 = .ok (.ishr, 1) := by decide +kernel
theorem dJ2_length_9d52b_4 : decode cJ2_length_9d52b 4 = .ok (.ireturn, 1) := by decide +kernel
theorem dJ2_charAt_3b067_0 : decode cJ2_charAt_3b067 0 = .ok (.iload_n 1, 1) := by decide +kernel
theorem dJ2_charAt_3b067_1 : decode cJ2_charAt_3b067 1 = .ok (.aload_n 0, 1) := by decide +kernel
theorem dJ2_charAt_3b067_2 : decode cJ2_charAt_3b067 2 = .ok (.invokestatic 67, 3) := by decide +kernel
theorem dJ2_charAt_3b067_5 : decode cJ2_charAt_3b067 5 = .ok (.aload_n 0, 1) := by decide +kernel
theorem dJ2_charAt_3b067_6 : decode cJ2_charAt_3b067 6 = .ok (.iload_n 1, 1) := by decide +kernel
theorem dJ2_charAt_3b067_7 : decode cJ2_charAt_3b067 7 = .ok (.invokestatic 71, 3) := by decide +kernel
theorem dJ2_charAt_3b067_10 : decode cJ2_charAt_3b067 10 = .ok (.ireturn, 1) := by decide +kernel
theorem dJ2_checkIndex_2214a_0 : decode cJ2_checkIndex_2214a 0 = .ok (.iload_n 0, 1) := by decide +kernel
theorem dJ2_checkIndex_2214a_1 : decode cJ2_checkIndex_2214a 1 = .ok (.aload_n 1, 1) := by decide +kernel
theorem dJ2_checkIndex_2214a_2 : decode cJ2_checkIndex_2214a 2 = .ok (.invokestatic 48, 3) := by decide +kernel
theorem dJ2_checkIndex_2214a_5 : decode cJ2_checkIndex_2214a 5 = .ok (.invokestatic 414, 3) := by decide +kernel
theorem dJ2_checkIndex_2214a_8 : decode cJ2_checkIndex_2214a 8 = .ok (.return_, 1) := by decide +kernel
theorem dJ3_checkIndex_8e157_0 : decode cJ3_checkIndex_8e157 0 = .ok (.iload_n 0, 1) := by decide +kernel
theorem dJ3_checkIndex_8e157_1 : decode cJ3_checkIndex_8e157 1 = .ok (.ifCond .lt 8, 3) := by decide +kernel
theorem dJ3_checkIndex_8e157_4 : decode cJ3_checkIndex_8e157 4 = .ok (.iload_n 0, 1) := by decide +kernel
theorem dJ3_checkIndex_8e157_5 : decode cJ3_checkIndex_8e157 5 = .ok (.iload_n 1, 1) := by decide +kernel
theorem dJ3_checkIndex_8e157_6 : decode cJ3_checkIndex_8e157 6 = .ok (.if_icmp .lt 10, 3) := by decide +kernel
theorem dJ3_checkIndex_8e157_9 : decode cJ3_checkIndex_8e157 9 = .ok (.aload_n 2, 1) := by decide +kernel
theorem dJ3_checkIndex_8e157_10 : decode cJ3_checkIndex_8e157 10 = .ok (.iload_n 0, 1) := by decide +kernel
theorem dJ3_checkIndex_8e157_11 : decode cJ3_checkIndex_8e157 11 = .ok (.iload_n 1, 1) := by decide +kernel
theorem dJ3_checkIndex_8e157_12 : decode cJ3_checkIndex_8e157 12 = .ok (.invokestatic 95, 3) := by decide +kernel
theorem dJ3_checkIndex_8e157_15 : decode cJ3_checkIndex_8e157 15 = .ok (.athrow, 1) := by decide +kernel
theorem dJ3_checkIndex_8e157_16 : decode cJ3_checkIndex_8e157 16 = .ok (.iload_n 0, 1) := by decide +kernel
theorem dJ3_checkIndex_8e157_17 : decode cJ3_checkIndex_8e157 17 = .ok (.ireturn, 1) := by decide +kernel
theorem dL_cell_0 : decode cL_cell 0 = .ok (.ldc 7, 2) := by decide +kernel
theorem dL_cell_2 : decode cL_cell 2 = .ok (.iload_n 1, 1) := by decide +kernel
theorem dL_cell_3 : decode cL_cell 3 = .ok (.aload_n 0, 1) := by decide +kernel
theorem dL_cell_4 : decode cL_cell 4 = .ok (.arraylength, 1) := by decide +kernel
theorem dL_cell_5 : decode cL_cell 5 = .ok (.if_icmp .ge 9, 3) := by decide +kernel
theorem dL_cell_8 : decode cL_cell 8 = .ok (.aload_n 0, 1) := by decide +kernel
theorem dL_cell_9 : decode cL_cell 9 = .ok (.iload_n 1, 1) := by decide +kernel
theorem dL_cell_10 : decode cL_cell 10 = .ok (.iaload, 1) := by decide +kernel
theorem dL_cell_11 : decode cL_cell 11 = .ok (.goto 4, 3) := by decide +kernel
theorem dL_cell_14 : decode cL_cell 14 = .ok (.iconst 0, 1) := by decide +kernel
theorem dL_cell_15 : decode cL_cell 15 = .ok (.sipush 1009, 3) := by decide +kernel
theorem dL_cell_18 : decode cL_cell 18 = .ok (.iload_n 1, 1) := by decide +kernel
theorem dL_cell_19 : decode cL_cell 19 = .ok (.imul, 1) := by decide +kernel
theorem dL_cell_20 : decode cL_cell 20 = .ok (.iadd, 1) := by decide +kernel
theorem dL_cell_21 : decode cL_cell 21 = .ok (.imul, 1) := by decide +kernel
theorem dL_cell_22 : decode cL_cell 22 = .ok (.sipush 12345, 3) := by decide +kernel
theorem dL_cell_25 : decode cL_cell 25 = .ok (.iadd, 1) := by decide +kernel
theorem dL_cell_26 : decode cL_cell 26 = .ok (.istore_n 2, 1) := by decide +kernel
theorem dL_cell_27 : decode cL_cell 27 = .ok (.iload_n 2, 1) := by decide +kernel
theorem dL_cell_28 : decode cL_cell 28 = .ok (.iload_n 2, 1) := by decide +kernel
theorem dL_cell_29 : decode cL_cell 29 = .ok (.bipush 13, 2) := by decide +kernel
theorem dL_cell_31 : decode cL_cell 31 = .ok (.iushr, 1) := by decide +kernel
theorem dL_cell_32 : decode cL_cell 32 = .ok (.ixor, 1) := by decide +kernel
theorem dL_cell_33 : decode cL_cell 33 = .ok (.ldc 8, 2) := by decide +kernel
theorem dL_cell_35 : decode cL_cell 35 = .ok (.imul, 1) := by decide +kernel
theorem dL_cell_36 : decode cL_cell 36 = .ok (.istore_n 2, 1) := by decide +kernel
theorem dL_cell_37 : decode cL_cell 37 = .ok (.iload_n 2, 1) := by decide +kernel
theorem dL_cell_38 : decode cL_cell 38 = .ok (.iload_n 2, 1) := by decide +kernel
theorem dL_cell_39 : decode cL_cell 39 = .ok (.bipush 16, 2) := by decide +kernel
theorem dL_cell_41 : decode cL_cell 41 = .ok (.iushr, 1) := by decide +kernel
theorem dL_cell_42 : decode cL_cell 42 = .ok (.ixor, 1) := by decide +kernel
theorem dL_cell_43 : decode cL_cell 43 = .ok (.ireturn, 1) := by decide +kernel
theorem dL_pick_0 : decode cL_pick 0 = .ok (.aload_n 0, 1) := by decide +kernel
theorem dL_pick_1 : decode cL_pick 1 = .ok (.iload_n 1, 1) := by decide +kernel
theorem dL_pick_2 : decode cL_pick 2 = .ok (.invokestatic 9, 3) := by decide +kernel
theorem dL_pick_5 : decode cL_pick 5 = .ok (.bipush 8, 2) := by decide +kernel
theorem dL_pick_7 : decode cL_pick 7 = .ok (.iushr, 1) := by decide +kernel
theorem dL_pick_8 : decode cL_pick 8 = .ok (.iload_n 2, 1) := by decide +kernel
theorem dL_pick_9 : decode cL_pick 9 = .ok (.irem, 1) := by decide +kernel
theorem dL_pick_10 : decode cL_pick 10 = .ok (.ireturn, 1) := by decide +kernel
theorem dL_told_0 : decode cL_told 0 = .ok (.iload_n 0, 1) := by decide +kernel
theorem dL_told_1 : decode cL_told 1 = .ok (.ifCond .eq 7, 3) := by decide +kernel
theorem dL_told_4 : decode cL_told 4 = .ok (.iconst 1, 1) := by decide +kernel
theorem dL_told_5 : decode cL_told 5 = .ok (.goto 4, 3) := by decide +kernel
theorem dL_told_8 : decode cL_told 8 = .ok (.iconst 0, 1) := by decide +kernel
theorem dL_told_9 : decode cL_told 9 = .ok (.ireturn, 1) := by decide +kernel
theorem dL_done_0 : decode cL_done 0 = .ok (.iload_n 1, 1) := by decide +kernel
theorem dL_done_1 : decode cL_done 1 = .ok (.tableswitch 259 0 20 #[99, 108, 122, 128, 135, 141, 148, 155, 162, 169, 181, 187, 193, 202, 208, 215, 221, 230, 236, 246, 252], 99) := by decide +kernel
theorem dL_done_100 : decode cL_done 100 = .ok (.aload_n 0, 1) := by decide +kernel
theorem dL_done_101 : decode cL_done 101 = .ok (.iload_n 2, 1) := by decide +kernel
theorem dL_done_102 : decode cL_done 102 = .ok (.iload_n 3, 1) := by decide +kernel
theorem dL_done_103 : decode cL_done 103 = .ok (.iload 4, 2) := by decide +kernel
theorem dL_done_105 : decode cL_done 105 = .ok (.invokevirtual 15, 3) := by decide +kernel
theorem dL_done_108 : decode cL_done 108 = .ok (.ireturn, 1) := by decide +kernel
theorem dL_done_109 : decode cL_done 109 = .ok (.aload_n 0, 1) := by decide +kernel
theorem dL_done_110 : decode cL_done 110 = .ok (.iload_n 2, 1) := by decide +kernel
theorem dL_done_111 : decode cL_done 111 = .ok (.iload_n 3, 1) := by decide +kernel
theorem dL_done_112 : decode cL_done 112 = .ok (.i2c, 1) := by decide +kernel
theorem dL_done_113 : decode cL_done 113 = .ok (.iload 4, 2) := by decide +kernel
theorem dL_done_115 : decode cL_done 115 = .ok (.iload 5, 2) := by decide +kernel
theorem dL_done_117 : decode cL_done 117 = .ok (.iload 6, 2) := by decide +kernel
theorem dL_done_119 : decode cL_done 119 = .ok (.invokevirtual 21, 3) := by decide +kernel
theorem dL_done_122 : decode cL_done 122 = .ok (.ireturn, 1) := by decide +kernel
theorem dL_done_123 : decode cL_done 123 = .ok (.aload_n 0, 1) := by decide +kernel
theorem dL_done_124 : decode cL_done 124 = .ok (.iload_n 2, 1) := by decide +kernel
theorem dL_done_125 : decode cL_done 125 = .ok (.invokevirtual 25, 3) := by decide +kernel
theorem dL_done_128 : decode cL_done 128 = .ok (.ireturn, 1) := by decide +kernel
theorem dL_done_129 : decode cL_done 129 = .ok (.aload_n 0, 1) := by decide +kernel
theorem dL_done_130 : decode cL_done 130 = .ok (.iload_n 2, 1) := by decide +kernel
theorem dL_done_131 : decode cL_done 131 = .ok (.iload_n 3, 1) := by decide +kernel
theorem dL_done_132 : decode cL_done 132 = .ok (.invokevirtual 29, 3) := by decide +kernel
theorem dL_done_135 : decode cL_done 135 = .ok (.ireturn, 1) := by decide +kernel
theorem dL_done_136 : decode cL_done 136 = .ok (.aload_n 0, 1) := by decide +kernel
theorem dL_done_137 : decode cL_done 137 = .ok (.iload_n 2, 1) := by decide +kernel
theorem dL_done_138 : decode cL_done 138 = .ok (.invokevirtual 33, 3) := by decide +kernel
theorem dL_done_141 : decode cL_done 141 = .ok (.ireturn, 1) := by decide +kernel
theorem dL_done_142 : decode cL_done 142 = .ok (.aload_n 0, 1) := by decide +kernel
theorem dL_done_143 : decode cL_done 143 = .ok (.iload_n 2, 1) := by decide +kernel
theorem dL_done_144 : decode cL_done 144 = .ok (.iload_n 3, 1) := by decide +kernel
theorem dL_done_145 : decode cL_done 145 = .ok (.invokevirtual 36, 3) := by decide +kernel
theorem dL_done_148 : decode cL_done 148 = .ok (.ireturn, 1) := by decide +kernel
theorem dL_done_149 : decode cL_done 149 = .ok (.aload_n 0, 1) := by decide +kernel
theorem dL_done_150 : decode cL_done 150 = .ok (.iload_n 2, 1) := by decide +kernel
theorem dL_done_151 : decode cL_done 151 = .ok (.iload_n 3, 1) := by decide +kernel
theorem dL_done_152 : decode cL_done 152 = .ok (.invokevirtual 39, 3) := by decide +kernel
theorem dL_done_155 : decode cL_done 155 = .ok (.ireturn, 1) := by decide +kernel
theorem dL_done_156 : decode cL_done 156 = .ok (.aload_n 0, 1) := by decide +kernel
theorem dL_done_157 : decode cL_done 157 = .ok (.iload_n 2, 1) := by decide +kernel
theorem dL_done_158 : decode cL_done 158 = .ok (.iload_n 3, 1) := by decide +kernel
theorem dL_done_159 : decode cL_done 159 = .ok (.invokevirtual 42, 3) := by decide +kernel
theorem dL_done_162 : decode cL_done 162 = .ok (.ireturn, 1) := by decide +kernel
theorem dL_done_163 : decode cL_done 163 = .ok (.aload_n 0, 1) := by decide +kernel
theorem dL_done_164 : decode cL_done 164 = .ok (.iload_n 2, 1) := by decide +kernel
theorem dL_done_165 : decode cL_done 165 = .ok (.iload_n 3, 1) := by decide +kernel
theorem dL_done_166 : decode cL_done 166 = .ok (.invokevirtual 45, 3) := by decide +kernel
theorem dL_done_169 : decode cL_done 169 = .ok (.ireturn, 1) := by decide +kernel
theorem dL_done_170 : decode cL_done 170 = .ok (.aload_n 0, 1) := by decide +kernel
theorem dL_done_171 : decode cL_done 171 = .ok (.iload_n 2, 1) := by decide +kernel
theorem dL_done_172 : decode cL_done 172 = .ok (.iload_n 3, 1) := by decide +kernel
theorem dL_done_173 : decode cL_done 173 = .ok (.iload 4, 2) := by decide +kernel
theorem dL_done_175 : decode cL_done 175 = .ok (.iload 5, 2) := by decide +kernel
theorem dL_done_177 : decode cL_done 177 = .ok (.i2c, 1) := by decide +kernel
theorem dL_done_178 : decode cL_done 178 = .ok (.invokevirtual 48, 3) := by decide +kernel
theorem dL_done_181 : decode cL_done 181 = .ok (.ireturn, 1) := by decide +kernel
theorem dL_done_182 : decode cL_done 182 = .ok (.aload_n 0, 1) := by decide +kernel
theorem dL_done_183 : decode cL_done 183 = .ok (.iload_n 2, 1) := by decide +kernel
theorem dL_done_184 : decode cL_done 184 = .ok (.invokevirtual 52, 3) := by decide +kernel
theorem dL_done_187 : decode cL_done 187 = .ok (.ireturn, 1) := by decide +kernel
theorem dL_done_188 : decode cL_done 188 = .ok (.aload_n 0, 1) := by decide +kernel
theorem dL_done_189 : decode cL_done 189 = .ok (.iload_n 2, 1) := by decide +kernel
theorem dL_done_190 : decode cL_done 190 = .ok (.invokevirtual 55, 3) := by decide +kernel
theorem dL_done_193 : decode cL_done 193 = .ok (.ireturn, 1) := by decide +kernel
theorem dL_done_194 : decode cL_done 194 = .ok (.aload_n 0, 1) := by decide +kernel
theorem dL_done_195 : decode cL_done 195 = .ok (.iload_n 2, 1) := by decide +kernel
theorem dL_done_196 : decode cL_done 196 = .ok (.invokevirtual 58, 3) := by decide +kernel
theorem dL_done_199 : decode cL_done 199 = .ok (.invokestatic 62, 3) := by decide +kernel
theorem dL_done_202 : decode cL_done 202 = .ok (.ireturn, 1) := by decide +kernel
theorem dL_done_203 : decode cL_done 203 = .ok (.aload_n 0, 1) := by decide +kernel
theorem dL_done_204 : decode cL_done 204 = .ok (.iload_n 2, 1) := by decide +kernel
theorem dL_done_205 : decode cL_done 205 = .ok (.invokevirtual 66, 3) := by decide +kernel
theorem dL_done_208 : decode cL_done 208 = .ok (.ireturn, 1) := by decide +kernel
theorem dL_done_209 : decode cL_done 209 = .ok (.aload_n 0, 1) := by decide +kernel
theorem dL_done_210 : decode cL_done 210 = .ok (.iload_n 2, 1) := by decide +kernel
theorem dL_done_211 : decode cL_done 211 = .ok (.iload_n 3, 1) := by decide +kernel
theorem dL_done_212 : decode cL_done 212 = .ok (.invokevirtual 69, 3) := by decide +kernel
theorem dL_done_215 : decode cL_done 215 = .ok (.ireturn, 1) := by decide +kernel
theorem dL_done_216 : decode cL_done 216 = .ok (.aload_n 0, 1) := by decide +kernel
theorem dL_done_217 : decode cL_done 217 = .ok (.iload_n 2, 1) := by decide +kernel
theorem dL_done_218 : decode cL_done 218 = .ok (.invokevirtual 72, 3) := by decide +kernel
theorem dL_done_221 : decode cL_done 221 = .ok (.ireturn, 1) := by decide +kernel
theorem dL_done_222 : decode cL_done 222 = .ok (.aload_n 0, 1) := by decide +kernel
theorem dL_done_223 : decode cL_done 223 = .ok (.iload_n 2, 1) := by decide +kernel
theorem dL_done_224 : decode cL_done 224 = .ok (.iload_n 3, 1) := by decide +kernel
theorem dL_done_225 : decode cL_done 225 = .ok (.iload 4, 2) := by decide +kernel
theorem dL_done_227 : decode cL_done 227 = .ok (.invokevirtual 75, 3) := by decide +kernel
theorem dL_done_230 : decode cL_done 230 = .ok (.ireturn, 1) := by decide +kernel
theorem dL_done_231 : decode cL_done 231 = .ok (.aload_n 0, 1) := by decide +kernel
theorem dL_done_232 : decode cL_done 232 = .ok (.iload_n 2, 1) := by decide +kernel
theorem dL_done_233 : decode cL_done 233 = .ok (.invokevirtual 78, 3) := by decide +kernel
theorem dL_done_236 : decode cL_done 236 = .ok (.ireturn, 1) := by decide +kernel
theorem dL_done_237 : decode cL_done 237 = .ok (.aload_n 0, 1) := by decide +kernel
theorem dL_done_238 : decode cL_done 238 = .ok (.iload_n 2, 1) := by decide +kernel
theorem dL_done_239 : decode cL_done 239 = .ok (.iload_n 3, 1) := by decide +kernel
theorem dL_done_240 : decode cL_done 240 = .ok (.iload 4, 2) := by decide +kernel
theorem dL_done_242 : decode cL_done 242 = .ok (.i2c, 1) := by decide +kernel
theorem dL_done_243 : decode cL_done 243 = .ok (.invokevirtual 81, 3) := by decide +kernel
theorem dL_done_246 : decode cL_done 246 = .ok (.ireturn, 1) := by decide +kernel
theorem dL_done_247 : decode cL_done 247 = .ok (.aload_n 0, 1) := by decide +kernel
theorem dL_done_248 : decode cL_done 248 = .ok (.iload_n 2, 1) := by decide +kernel
theorem dL_done_249 : decode cL_done 249 = .ok (.invokevirtual 85, 3) := by decide +kernel
theorem dL_done_252 : decode cL_done 252 = .ok (.ireturn, 1) := by decide +kernel
theorem dL_done_253 : decode cL_done 253 = .ok (.aload_n 0, 1) := by decide +kernel
theorem dL_done_254 : decode cL_done 254 = .ok (.iload_n 2, 1) := by decide +kernel
theorem dL_done_255 : decode cL_done 255 = .ok (.iload_n 3, 1) := by decide +kernel
theorem dL_done_256 : decode cL_done 256 = .ok (.invokevirtual 88, 3) := by decide +kernel
theorem dL_done_259 : decode cL_done 259 = .ok (.ireturn, 1) := by decide +kernel
theorem dL_done_260 : decode cL_done 260 = .ok (.aload_n 0, 1) := by decide +kernel
theorem dL_done_261 : decode cL_done 261 = .ok (.iload_n 2, 1) := by decide +kernel
theorem dL_done_262 : decode cL_done 262 = .ok (.invokevirtual 91, 3) := by decide +kernel
theorem dL_done_265 : decode cL_done 265 = .ok (.ireturn, 1) := by decide +kernel
theorem dL_asked_0 : decode cL_asked 0 = .ok (.iload_n 1, 1) := by decide +kernel
theorem dL_asked_1 : decode cL_asked 1 = .ok (.tableswitch 166 30 42 #[67, 73, 80, 90, 102, 111, 118, 125, 132, 139, 147, 153, 161], 67) := by decide +kernel
theorem dL_asked_68 : decode cL_asked 68 = .ok (.aload_n 0, 1) := by decide +kernel
theorem dL_asked_69 : decode cL_asked 69 = .ok (.iload_n 2, 1) := by decide +kernel
theorem dL_asked_70 : decode cL_asked 70 = .ok (.invokevirtual 94, 3) := by decide +kernel
theorem dL_asked_73 : decode cL_asked 73 = .ok (.ireturn, 1) := by decide +kernel
theorem dL_asked_74 : decode cL_asked 74 = .ok (.aload_n 0, 1) := by decide +kernel
theorem dL_asked_75 : decode cL_asked 75 = .ok (.iload_n 2, 1) := by decide +kernel
theorem dL_asked_76 : decode cL_asked 76 = .ok (.iload_n 3, 1) := by decide +kernel
theorem dL_asked_77 : decode cL_asked 77 = .ok (.invokevirtual 98, 3) := by decide +kernel
theorem dL_asked_80 : decode cL_asked 80 = .ok (.ireturn, 1) := by decide +kernel
theorem dL_asked_81 : decode cL_asked 81 = .ok (.aload_n 0, 1) := by decide +kernel
theorem dL_asked_82 : decode cL_asked 82 = .ok (.iload_n 2, 1) := by decide +kernel
theorem dL_asked_83 : decode cL_asked 83 = .ok (.iload_n 3, 1) := by decide +kernel
theorem dL_asked_84 : decode cL_asked 84 = .ok (.invokevirtual 101, 3) := by decide +kernel
theorem dL_asked_87 : decode cL_asked 87 = .ok (.invokestatic 62, 3) := by decide +kernel
theorem dL_asked_90 : decode cL_asked 90 = .ok (.ireturn, 1) := by decide +kernel
theorem dL_asked_91 : decode cL_asked 91 = .ok (.aload_n 0, 1) := by decide +kernel
theorem dL_asked_92 : decode cL_asked 92 = .ok (.iload_n 2, 1) := by decide +kernel
theorem dL_asked_93 : decode cL_asked 93 = .ok (.iload_n 3, 1) := by decide +kernel
theorem dL_asked_94 : decode cL_asked 94 = .ok (.iload 4, 2) := by decide +kernel
theorem dL_asked_96 : decode cL_asked 96 = .ok (.invokevirtual 105, 3) := by decide +kernel
theorem dL_asked_99 : decode cL_asked 99 = .ok (.invokestatic 62, 3) := by decide +kernel
theorem dL_asked_102 : decode cL_asked 102 = .ok (.ireturn, 1) := by decide +kernel
theorem dL_asked_103 : decode cL_asked 103 = .ok (.aload_n 0, 1) := by decide +kernel
theorem dL_asked_104 : decode cL_asked 104 = .ok (.iload_n 2, 1) := by decide +kernel
theorem dL_asked_105 : decode cL_asked 105 = .ok (.invokevirtual 109, 3) := by decide +kernel
theorem dL_asked_108 : decode cL_asked 108 = .ok (.invokestatic 62, 3) := by decide +kernel
theorem dL_asked_111 : decode cL_asked 111 = .ok (.ireturn, 1) := by decide +kernel
theorem dL_asked_112 : decode cL_asked 112 = .ok (.aload_n 0, 1) := by decide +kernel
theorem dL_asked_113 : decode cL_asked 113 = .ok (.iload_n 2, 1) := by decide +kernel
theorem dL_asked_114 : decode cL_asked 114 = .ok (.iload_n 3, 1) := by decide +kernel
theorem dL_asked_115 : decode cL_asked 115 = .ok (.invokevirtual 112, 3) := by decide +kernel
theorem dL_asked_118 : decode cL_asked 118 = .ok (.ireturn, 1) := by decide +kernel
theorem dL_asked_119 : decode cL_asked 119 = .ok (.aload_n 0, 1) := by decide +kernel
theorem dL_asked_120 : decode cL_asked 120 = .ok (.iload_n 2, 1) := by decide +kernel
theorem dL_asked_121 : decode cL_asked 121 = .ok (.iload_n 3, 1) := by decide +kernel
theorem dL_asked_122 : decode cL_asked 122 = .ok (.invokevirtual 115, 3) := by decide +kernel
theorem dL_asked_125 : decode cL_asked 125 = .ok (.ireturn, 1) := by decide +kernel
theorem dL_asked_126 : decode cL_asked 126 = .ok (.aload_n 0, 1) := by decide +kernel
theorem dL_asked_127 : decode cL_asked 127 = .ok (.iload_n 2, 1) := by decide +kernel
theorem dL_asked_128 : decode cL_asked 128 = .ok (.iload_n 3, 1) := by decide +kernel
theorem dL_asked_129 : decode cL_asked 129 = .ok (.invokevirtual 118, 3) := by decide +kernel
theorem dL_asked_132 : decode cL_asked 132 = .ok (.ireturn, 1) := by decide +kernel
theorem dL_asked_133 : decode cL_asked 133 = .ok (.aload_n 0, 1) := by decide +kernel
theorem dL_asked_134 : decode cL_asked 134 = .ok (.iload_n 2, 1) := by decide +kernel
theorem dL_asked_135 : decode cL_asked 135 = .ok (.iload_n 3, 1) := by decide +kernel
theorem dL_asked_136 : decode cL_asked 136 = .ok (.invokevirtual 122, 3) := by decide +kernel
theorem dL_asked_139 : decode cL_asked 139 = .ok (.ireturn, 1) := by decide +kernel
theorem dL_asked_140 : decode cL_asked 140 = .ok (.aload_n 0, 1) := by decide +kernel
theorem dL_asked_141 : decode cL_asked 141 = .ok (.iload_n 2, 1) := by decide +kernel
theorem dL_asked_142 : decode cL_asked 142 = .ok (.iload_n 3, 1) := by decide +kernel
theorem dL_asked_143 : decode cL_asked 143 = .ok (.i2c, 1) := by decide +kernel
theorem dL_asked_144 : decode cL_asked 144 = .ok (.invokevirtual 125, 3) := by decide +kernel
theorem dL_asked_147 : decode cL_asked 147 = .ok (.ireturn, 1) := by decide +kernel
theorem dL_asked_148 : decode cL_asked 148 = .ok (.aload_n 0, 1) := by decide +kernel
theorem dL_asked_149 : decode cL_asked 149 = .ok (.iload_n 2, 1) := by decide +kernel
theorem dL_asked_150 : decode cL_asked 150 = .ok (.invokevirtual 129, 3) := by decide +kernel
theorem dL_asked_153 : decode cL_asked 153 = .ok (.ireturn, 1) := by decide +kernel
theorem dL_asked_154 : decode cL_asked 154 = .ok (.aload_n 0, 1) := by decide +kernel
theorem dL_asked_155 : decode cL_asked 155 = .ok (.iload_n 2, 1) := by decide +kernel
theorem dL_asked_156 : decode cL_asked 156 = .ok (.iload_n 3, 1) := by decide +kernel
theorem dL_asked_157 : decode cL_asked 157 = .ok (.i2c, 1) := by decide +kernel
theorem dL_asked_158 : decode cL_asked 158 = .ok (.invokevirtual 132, 3) := by decide +kernel
theorem dL_asked_161 : decode cL_asked 161 = .ok (.ireturn, 1) := by decide +kernel
theorem dL_asked_162 : decode cL_asked 162 = .ok (.aload_n 0, 1) := by decide +kernel
theorem dL_asked_163 : decode cL_asked 163 = .ok (.invokevirtual 135, 3) := by decide +kernel
theorem dL_asked_166 : decode cL_asked 166 = .ok (.ireturn, 1) := by decide +kernel
theorem dL_asked_167 : decode cL_asked 167 = .ok (.aload_n 0, 1) := by decide +kernel
theorem dL_asked_168 : decode cL_asked 168 = .ok (.iload_n 2, 1) := by decide +kernel
theorem dL_asked_169 : decode cL_asked 169 = .ok (.invokevirtual 139, 3) := by decide +kernel
theorem dL_asked_172 : decode cL_asked 172 = .ok (.ireturn, 1) := by decide +kernel
theorem dL_deed_0 : decode cL_deed 0 = .ok (.iload_n 1, 1) := by decide +kernel
theorem dL_deed_1 : decode cL_deed 1 = .ok (.bipush 30, 2) := by decide +kernel
theorem dL_deed_3 : decode cL_deed 3 = .ok (.if_icmp .ge 19, 3) := by decide +kernel
theorem dL_deed_6 : decode cL_deed 6 = .ok (.aload_n 0, 1) := by decide +kernel
theorem dL_deed_7 : decode cL_deed 7 = .ok (.iload_n 1, 1) := by decide +kernel
theorem dL_deed_8 : decode cL_deed 8 = .ok (.iload_n 2, 1) := by decide +kernel
theorem dL_deed_9 : decode cL_deed 9 = .ok (.iload_n 3, 1) := by decide +kernel
theorem dL_deed_10 : decode cL_deed 10 = .ok (.iload 4, 2) := by decide +kernel
theorem dL_deed_12 : decode cL_deed 12 = .ok (.iload 5, 2) := by decide +kernel
theorem dL_deed_14 : decode cL_deed 14 = .ok (.iload 6, 2) := by decide +kernel
theorem dL_deed_16 : decode cL_deed 16 = .ok (.invokestatic 142, 3) := by decide +kernel
theorem dL_deed_19 : decode cL_deed 19 = .ok (.goto 12, 3) := by decide +kernel
theorem dL_deed_22 : decode cL_deed 22 = .ok (.aload_n 0, 1) := by decide +kernel
theorem dL_deed_23 : decode cL_deed 23 = .ok (.iload_n 1, 1) := by decide +kernel
theorem dL_deed_24 : decode cL_deed 24 = .ok (.iload_n 2, 1) := by decide +kernel
theorem dL_deed_25 : decode cL_deed 25 = .ok (.iload_n 3, 1) := by decide +kernel
theorem dL_deed_26 : decode cL_deed 26 = .ok (.iload 4, 2) := by decide +kernel
theorem dL_deed_28 : decode cL_deed 28 = .ok (.invokestatic 146, 3) := by decide +kernel
theorem dL_deed_31 : decode cL_deed 31 = .ok (.ireturn, 1) := by decide +kernel
theorem dL_deed_32 : decode cL_deed 32 = .ok (.astore 7, 2) := by decide +kernel
theorem dL_deed_34 : decode cL_deed 34 = .ok (.sipush (-2001), 3) := by decide +kernel
theorem dL_deed_37 : decode cL_deed 37 = .ok (.ireturn, 1) := by decide +kernel
theorem dL_deed_38 : decode cL_deed 38 = .ok (.astore 7, 2) := by decide +kernel
theorem dL_deed_40 : decode cL_deed 40 = .ok (.sipush (-2002), 3) := by decide +kernel
theorem dL_deed_43 : decode cL_deed 43 = .ok (.ireturn, 1) := by decide +kernel
theorem dL_deed_44 : decode cL_deed 44 = .ok (.astore 7, 2) := by decide +kernel
theorem dL_deed_46 : decode cL_deed 46 = .ok (.sipush (-2004), 3) := by decide +kernel
theorem dL_deed_49 : decode cL_deed 49 = .ok (.ireturn, 1) := by decide +kernel
theorem dL_deed_50 : decode cL_deed 50 = .ok (.astore 7, 2) := by decide +kernel
theorem dL_deed_52 : decode cL_deed 52 = .ok (.sipush (-2005), 3) := by decide +kernel
theorem dL_deed_55 : decode cL_deed 55 = .ok (.ireturn, 1) := by decide +kernel
theorem dL_deed_56 : decode cL_deed 56 = .ok (.astore 7, 2) := by decide +kernel
theorem dL_deed_58 : decode cL_deed 58 = .ok (.sipush (-2003), 3) := by decide +kernel
theorem dL_deed_61 : decode cL_deed 61 = .ok (.ireturn, 1) := by decide +kernel
theorem dL_ask_0 : decode cL_ask 0 = .ok (.aload_n 0, 1) := by decide +kernel
theorem dL_ask_1 : decode cL_ask 1 = .ok (.iload_n 1, 1) := by decide +kernel
theorem dL_ask_2 : decode cL_ask 2 = .ok (.iload_n 2, 1) := by decide +kernel
theorem dL_ask_3 : decode cL_ask 3 = .ok (.iload_n 3, 1) := by decide +kernel
theorem dL_ask_4 : decode cL_ask 4 = .ok (.iconst 0, 1) := by decide +kernel
theorem dL_ask_5 : decode cL_ask 5 = .ok (.iconst 0, 1) := by decide +kernel
theorem dL_ask_6 : decode cL_ask 6 = .ok (.iconst 0, 1) := by decide +kernel
theorem dL_ask_7 : decode cL_ask 7 = .ok (.invokestatic 160, 3) := by decide +kernel
theorem dL_ask_10 : decode cL_ask 10 = .ok (.ireturn, 1) := by decide +kernel
theorem dL_block_0 : decode cL_block 0 = .ok (.aload_n 0, 1) := by decide +kernel
theorem dL_block_1 : decode cL_block 1 = .ok (.iconst 1, 1) := by decide +kernel
theorem dL_block_2 : decode cL_block 2 = .ok (.iload_n 1, 1) := by decide +kernel
theorem dL_block_3 : decode cL_block 3 = .ok (.iload_n 2, 1) := by decide +kernel
theorem dL_block_4 : decode cL_block 4 = .ok (.iload_n 3, 1) := by decide +kernel
theorem dL_block_5 : decode cL_block 5 = .ok (.iload 4, 2) := by decide +kernel
theorem dL_block_7 : decode cL_block 7 = .ok (.iload 5, 2) := by decide +kernel
theorem dL_block_9 : decode cL_block 9 = .ok (.invokestatic 160, 3) := by decide +kernel
theorem dL_block_12 : decode cL_block 12 = .ok (.ireturn, 1) := by decide +kernel
theorem dL_build_0 : decode cL_build 0 = .ok (.iconst 0, 1) := by decide +kernel
theorem dL_build_1 : decode cL_build 1 = .ok (.istore_n 2, 1) := by decide +kernel
theorem dL_build_2 : decode cL_build 2 = .ok (.iload_n 2, 1) := by decide +kernel
theorem dL_build_3 : decode cL_build 3 = .ok (.iconst 2, 1) := by decide +kernel
theorem dL_build_4 : decode cL_build 4 = .ok (.if_icmp .ge 272, 3) := by decide +kernel
theorem dL_build_7 : decode cL_build 7 = .ok (.aload_n 0, 1) := by decide +kernel
theorem dL_build_8 : decode cL_build 8 = .ok (.iconst 0, 1) := by decide +kernel
theorem dL_build_9 : decode cL_build 9 = .ok (.bipush 50, 2) := by decide +kernel
theorem dL_build_11 : decode cL_build 11 = .ok (.aload_n 1, 1) := by decide +kernel
theorem dL_build_12 : decode cL_build 12 = .ok (.iload_n 2, 1) := by decide +kernel
theorem dL_build_13 : decode cL_build 13 = .ok (.bipush 80, 2) := by decide +kernel
theorem dL_build_15 : decode cL_build 15 = .ok (.invokestatic 163, 3) := by decide +kernel
theorem dL_build_18 : decode cL_build 18 = .ok (.iadd, 1) := by decide +kernel
theorem dL_build_19 : decode cL_build 19 = .ok (.aload_n 1, 1) := by decide +kernel
theorem dL_build_20 : decode cL_build 20 = .ok (.iconst 2, 1) := by decide +kernel
theorem dL_build_21 : decode cL_build 21 = .ok (.iload_n 2, 1) := by decide +kernel
theorem dL_build_22 : decode cL_build 22 = .ok (.iadd, 1) := by decide +kernel
theorem dL_build_23 : decode cL_build 23 = .ok (.bipush 41, 2) := by decide +kernel
theorem dL_build_25 : decode cL_build 25 = .ok (.invokestatic 163, 3) := by decide +kernel
theorem dL_build_28 : decode cL_build 28 = .ok (.aload_n 1, 1) := by decide +kernel
theorem dL_build_29 : decode cL_build 29 = .ok (.iconst 4, 1) := by decide +kernel
theorem dL_build_30 : decode cL_build 30 = .ok (.iload_n 2, 1) := by decide +kernel
theorem dL_build_31 : decode cL_build 31 = .ok (.iadd, 1) := by decide +kernel
theorem dL_build_32 : decode cL_build 32 = .ok (.bipush 20, 2) := by decide +kernel
theorem dL_build_34 : decode cL_build 34 = .ok (.invokestatic 163, 3) := by decide +kernel
theorem dL_build_37 : decode cL_build 37 = .ok (.iconst 0, 1) := by decide +kernel
theorem dL_build_38 : decode cL_build 38 = .ok (.iconst 0, 1) := by decide +kernel
theorem dL_build_39 : decode cL_build 39 = .ok (.invokestatic 160, 3) := by decide +kernel
theorem dL_build_42 : decode cL_build 42 = .ok (.pop, 1) := by decide +kernel
theorem dL_build_43 : decode cL_build 43 = .ok (.iconst 3, 1) := by decide +kernel
theorem dL_build_44 : decode cL_build 44 = .ok (.aload_n 1, 1) := by decide +kernel
theorem dL_build_45 : decode cL_build 45 = .ok (.bipush 6, 2) := by decide +kernel
theorem dL_build_47 : decode cL_build 47 = .ok (.iload_n 2, 1) := by decide +kernel
theorem dL_build_48 : decode cL_build 48 = .ok (.iadd, 1) := by decide +kernel
theorem dL_build_49 : decode cL_build 49 = .ok (.bipush 9, 2) := by decide +kernel
theorem dL_build_51 : decode cL_build 51 = .ok (.invokestatic 163, 3) := by decide +kernel
theorem dL_build_54 : decode cL_build 54 = .ok (.iadd, 1) := by decide +kernel
theorem dL_build_55 : decode cL_build 55 = .ok (.istore_n 3, 1) := by decide +kernel
theorem dL_build_56 : decode cL_build 56 = .ok (.iconst 0, 1) := by decide +kernel
theorem dL_build_57 : decode cL_build 57 = .ok (.istore 4, 2) := by decide +kernel
theorem dL_build_59 : decode cL_build 59 = .ok (.aload_n 0, 1) := by decide +kernel
theorem dL_build_60 : decode cL_build 60 = .ok (.iload_n 2, 1) := by decide +kernel
theorem dL_build_61 : decode cL_build 61 = .ok (.bipush 115, 2) := by decide +kernel
theorem dL_build_63 : decode cL_build 63 = .ok (.iconst 4, 1) := by decide +kernel
theorem dL_build_64 : decode cL_build 64 = .ok (.iconst 0, 1) := by decide +kernel
theorem dL_build_65 : decode cL_build 65 = .ok (.iconst 0, 1) := by decide +kernel
theorem dL_build_66 : decode cL_build 66 = .ok (.invokestatic 167, 3) := by decide +kernel
theorem dL_build_69 : decode cL_build 69 = .ok (.pop, 1) := by decide +kernel
theorem dL_build_70 : decode cL_build 70 = .ok (.iconst 1, 1) := by decide +kernel
theorem dL_build_71 : decode cL_build 71 = .ok (.istore 5, 2) := by decide +kernel
theorem dL_build_73 : decode cL_build 73 = .ok (.iload 5, 2) := by decide +kernel
theorem dL_build_75 : decode cL_build 75 = .ok (.iload_n 3, 1) := by decide +kernel
theorem dL_build_76 : decode cL_build 76 = .ok (.if_icmp .gt 166, 3) := by decide +kernel
theorem dL_build_79 : decode cL_build 79 = .ok (.bipush 10, 2) := by decide +kernel
theorem dL_build_81 : decode cL_build 81 = .ok (.bipush 60, 2) := by decide +kernel
theorem dL_build_83 : decode cL_build 83 = .ok (.iload_n 2, 1) := by decide +kernel
theorem dL_build_84 : decode cL_build 84 = .ok (.imul, 1) := by decide +kernel
theorem dL_build_85 : decode cL_build 85 = .ok (.iadd, 1) := by decide +kernel
theorem dL_build_86 : decode cL_build 86 = .ok (.iconst 4, 1) := by decide +kernel
theorem dL_build_87 : decode cL_build 87 = .ok (.iload 5, 2) := by decide +kernel
theorem dL_build_89 : decode cL_build 89 = .ok (.imul, 1) := by decide +kernel
theorem dL_build_90 : decode cL_build 90 = .ok (.iadd, 1) := by decide +kernel
theorem dL_build_91 : decode cL_build 91 = .ok (.istore 6, 2) := by decide +kernel
theorem dL_build_93 : decode cL_build 93 = .ok (.aload_n 1, 1) := by decide +kernel
theorem dL_build_94 : decode cL_build 94 = .ok (.iload 6, 2) := by decide +kernel
theorem dL_build_96 : decode cL_build 96 = .ok (.iconst 5, 1) := by decide +kernel
theorem dL_build_97 : decode cL_build 97 = .ok (.invokestatic 163, 3) := by decide +kernel
theorem dL_build_100 : decode cL_build 100 = .ok (.istore 7, 2) := by decide +kernel
theorem dL_build_102 : decode cL_build 102 = .ok (.iload 5, 2) := by decide +kernel
theorem dL_build_104 : decode cL_build 104 = .ok (.iload_n 3, 1) := by decide +kernel
theorem dL_build_105 : decode cL_build 105 = .ok (.if_icmp .ne 9, 3) := by decide +kernel
theorem dL_build_108 : decode cL_build 108 = .ok (.iload 4, 2) := by decide +kernel
theorem dL_build_110 : decode cL_build 110 = .ok (.ineg, 1) := by decide +kernel
theorem dL_build_111 : decode cL_build 111 = .ok (.goto 23, 3) := by decide +kernel
theorem dL_build_114 : decode cL_build 114 = .ok (.iload 7, 2) := by decide +kernel
theorem dL_build_116 : decode cL_build 116 = .ok (.ifCond .ne 7, 3) := by decide +kernel
theorem dL_build_119 : decode cL_build 119 = .ok (.iconst 0, 1) := by decide +kernel
theorem dL_build_120 : decode cL_build 120 = .ok (.goto 14, 3) := by decide +kernel
theorem dL_build_123 : decode cL_build 123 = .ok (.aload_n 1, 1) := by decide +kernel
theorem dL_build_124 : decode cL_build 124 = .ok (.iload 6, 2) := by decide +kernel
theorem dL_build_126 : decode cL_build 126 = .ok (.iconst 1, 1) := by decide +kernel
theorem dL_build_127 : decode cL_build 127 = .ok (.iadd, 1) := by decide +kernel
theorem dL_build_128 : decode cL_build 128 = .ok (.iconst 5, 1) := by decide +kernel
theorem dL_build_129 : decode cL_build 129 = .ok (.invokestatic 163, 3) := by decide +kernel
theorem dL_build_132 : decode cL_build 132 = .ok (.iconst 2, 1) := by decide +kernel
theorem dL_build_133 : decode cL_build 133 = .ok (.isub, 1) := by decide +kernel
theorem dL_build_134 : decode cL_build 134 = .ok (.istore 8, 2) := by decide +kernel
theorem dL_build_136 : decode cL_build 136 = .ok (.iload 5, 2) := by decide +kernel
theorem dL_build_138 : decode cL_build 138 = .ok (.iload_n 3, 1) := by decide +kernel
theorem dL_build_139 : decode cL_build 139 = .ok (.if_icmp .ne 8, 3) := by decide +kernel
theorem dL_build_142 : decode cL_build 142 = .ok (.bipush 116, 2) := by decide +kernel
theorem dL_build_144 : decode cL_build 144 = .ok (.goto 26, 3) := by decide +kernel
theorem dL_build_147 : decode cL_build 147 = .ok (.iload 7, 2) := by decide +kernel
theorem dL_build_149 : decode cL_build 149 = .ok (.ifCond .ne 8, 3) := by decide +kernel
theorem dL_build_152 : decode cL_build 152 = .ok (.bipush 98, 2) := by decide +kernel
theorem dL_build_154 : decode cL_build 154 = .ok (.goto 16, 3) := by decide +kernel
theorem dL_build_157 : decode cL_build 157 = .ok (.iload 7, 2) := by decide +kernel
theorem dL_build_159 : decode cL_build 159 = .ok (.iconst 1, 1) := by decide +kernel
theorem dL_build_160 : decode cL_build 160 = .ok (.if_icmp .ne 8, 3) := by decide +kernel
theorem dL_build_163 : decode cL_build 163 = .ok (.bipush 108, 2) := by decide +kernel
theorem dL_build_165 : decode cL_build 165 = .ok (.goto 5, 3) := by decide +kernel
theorem dL_build_168 : decode cL_build 168 = .ok (.bipush 116, 2) := by decide +kernel
theorem dL_build_170 : decode cL_build 170 = .ok (.istore 9, 2) := by decide +kernel
theorem dL_build_172 : decode cL_build 172 = .ok (.bipush (-9), 2) := by decide +kernel
theorem dL_build_174 : decode cL_build 174 = .ok (.bipush 9, 2) := by decide +kernel
theorem dL_build_176 : decode cL_build 176 = .ok (.iload 8, 2) := by decide +kernel
theorem dL_build_178 : decode cL_build 178 = .ok (.invokestatic 171, 3) := by decide +kernel
theorem dL_build_181 : decode cL_build 181 = .ok (.invokestatic 176, 3) := by decide +kernel
theorem dL_build_184 : decode cL_build 184 = .ok (.istore 8, 2) := by decide +kernel
theorem dL_build_186 : decode cL_build 186 = .ok (.aload_n 0, 1) := by decide +kernel
theorem dL_build_187 : decode cL_build 187 = .ok (.iload_n 2, 1) := by decide +kernel
theorem dL_build_188 : decode cL_build 188 = .ok (.iload 9, 2) := by decide +kernel
theorem dL_build_190 : decode cL_build 190 = .ok (.iconst 1, 1) := by decide +kernel
theorem dL_build_191 : decode cL_build 191 = .ok (.aload_n 1, 1) := by decide +kernel
theorem dL_build_192 : decode cL_build 192 = .ok (.iload 6, 2) := by decide +kernel
theorem dL_build_194 : decode cL_build 194 = .ok (.iconst 2, 1) := by decide +kernel
theorem dL_build_195 : decode cL_build 195 = .ok (.iadd, 1) := by decide +kernel
theorem dL_build_196 : decode cL_build 196 = .ok (.bipush 20, 2) := by decide +kernel
theorem dL_build_198 : decode cL_build 198 = .ok (.invokestatic 163, 3) := by decide +kernel
theorem dL_build_201 : decode cL_build 201 = .ok (.iadd, 1) := by decide +kernel
theorem dL_build_202 : decode cL_build 202 = .ok (.iload 8, 2) := by decide +kernel
theorem dL_build_204 : decode cL_build 204 = .ok (.iload 9, 2) := by decide +kernel
theorem dL_build_206 : decode cL_build 206 = .ok (.bipush 98, 2) := by decide +kernel
theorem dL_build_208 : decode cL_build 208 = .ok (.if_icmp .ne 7, 3) := by decide +kernel
theorem dL_build_211 : decode cL_build 211 = .ok (.iconst 0, 1) := by decide +kernel
theorem dL_build_212 : decode cL_build 212 = .ok (.goto 13, 3) := by decide +kernel
theorem dL_build_215 : decode cL_build 215 = .ok (.aload_n 1, 1) := by decide +kernel
theorem dL_build_216 : decode cL_build 216 = .ok (.iload 6, 2) := by decide +kernel
theorem dL_build_218 : decode cL_build 218 = .ok (.iconst 3, 1) := by decide +kernel
theorem dL_build_219 : decode cL_build 219 = .ok (.iadd, 1) := by decide +kernel
theorem dL_build_220 : decode cL_build 220 = .ok (.bipush 7, 2) := by decide +kernel
theorem dL_build_222 : decode cL_build 222 = .ok (.invokestatic 163, 3) := by decide +kernel
theorem dL_build_225 : decode cL_build 225 = .ok (.invokestatic 167, 3) := by decide +kernel
theorem dL_build_228 : decode cL_build 228 = .ok (.pop, 1) := by decide +kernel
theorem dL_build_229 : decode cL_build 229 = .ok (.iload 4, 2) := by decide +kernel
theorem dL_build_231 : decode cL_build 231 = .ok (.iload 8, 2) := by decide +kernel
theorem dL_build_233 : decode cL_build 233 = .ok (.iadd, 1) := by decide +kernel
theorem dL_build_234 : decode cL_build 234 = .ok (.istore 4, 2) := by decide +kernel
theorem dL_build_236 : decode cL_build 236 = .ok (.iinc 5 1, 3) := by decide +kernel
theorem dL_build_239 : decode cL_build 239 = .ok (.goto (-166), 3) := by decide +kernel
theorem dL_build_242 : decode cL_build 242 = .ok (.aload_n 0, 1) := by decide +kernel
theorem dL_build_243 : decode cL_build 243 = .ok (.iconst 2, 1) := by decide +kernel
theorem dL_build_244 : decode cL_build 244 = .ok (.iload_n 2, 1) := by decide +kernel
theorem dL_build_245 : decode cL_build 245 = .ok (.iconst 0, 1) := by decide +kernel
theorem dL_build_246 : decode cL_build 246 = .ok (.invokestatic 179, 3) := by decide +kernel
theorem dL_build_249 : decode cL_build 249 = .ok (.pop, 1) := by decide +kernel
theorem dL_build_250 : decode cL_build 250 = .ok (.aload_n 0, 1) := by decide +kernel
theorem dL_build_251 : decode cL_build 251 = .ok (.iconst 3, 1) := by decide +kernel
theorem dL_build_252 : decode cL_build 252 = .ok (.iload_n 2, 1) := by decide +kernel
theorem dL_build_253 : decode cL_build 253 = .ok (.iconst 1, 1) := by decide +kernel
theorem dL_build_254 : decode cL_build 254 = .ok (.aload_n 1, 1) := by decide +kernel
theorem dL_build_255 : decode cL_build 255 = .ok (.sipush 130, 3) := by decide +kernel
theorem dL_build_258 : decode cL_build 258 = .ok (.iload_n 2, 1) := by decide +kernel
theorem dL_build_259 : decode cL_build 259 = .ok (.iadd, 1) := by decide +kernel
theorem dL_build_260 : decode cL_build 260 = .ok (.bipush 8, 2) := by decide +kernel
theorem dL_build_262 : decode cL_build 262 = .ok (.invokestatic 163, 3) := by decide +kernel
theorem dL_build_265 : decode cL_build 265 = .ok (.iadd, 1) := by decide +kernel
theorem dL_build_266 : decode cL_build 266 = .ok (.invokestatic 179, 3) := by decide +kernel
theorem dL_build_269 : decode cL_build 269 = .ok (.pop, 1) := by decide +kernel
theorem dL_build_270 : decode cL_build 270 = .ok (.iinc 2 1, 3) := by decide +kernel
theorem dL_build_273 : decode cL_build 273 = .ok (.goto (-271), 3) := by decide +kernel
theorem dL_build_276 : decode cL_build 276 = .ok (.aload_n 0, 1) := by decide +kernel
theorem dL_build_277 : decode cL_build 277 = .ok (.iconst 4, 1) := by decide +kernel
theorem dL_build_278 : decode cL_build 278 = .ok (.iconst 1, 1) := by decide +kernel
theorem dL_build_279 : decode cL_build 279 = .ok (.aload_n 1, 1) := by decide +kernel
theorem dL_build_280 : decode cL_build 280 = .ok (.sipush 132, 3) := by decide +kernel
theorem dL_build_283 : decode cL_build 283 = .ok (.iconst 3, 1) := by decide +kernel
theorem dL_build_284 : decode cL_build 284 = .ok (.invokestatic 163, 3) := by decide +kernel
theorem dL_build_287 : decode cL_build 287 = .ok (.iadd, 1) := by decide +kernel
theorem dL_build_288 : decode cL_build 288 = .ok (.iconst 0, 1) := by decide +kernel
theorem dL_build_289 : decode cL_build 289 = .ok (.invokestatic 179, 3) := by decide +kernel
theorem dL_build_292 : decode cL_build 292 = .ok (.pop, 1) := by decide +kernel
theorem dL_build_293 : decode cL_build 293 = .ok (.aload_n 0, 1) := by decide +kernel
theorem dL_build_294 : decode cL_build 294 = .ok (.iconst 4, 1) := by decide +kernel
theorem dL_build_295 : decode cL_build 295 = .ok (.iconst 3, 1) := by decide +kernel
theorem dL_build_296 : decode cL_build 296 = .ok (.iconst 0, 1) := by decide +kernel
theorem dL_build_297 : decode cL_build 297 = .ok (.invokestatic 179, 3) := by decide +kernel
theorem dL_build_300 : decode cL_build 300 = .ok (.pop, 1) := by decide +kernel
theorem dL_build_301 : decode cL_build 301 = .ok (.aload_n 0, 1) := by decide +kernel
theorem dL_build_302 : decode cL_build 302 = .ok (.iconst 5, 1) := by decide +kernel
theorem dL_build_303 : decode cL_build 303 = .ok (.iconst 0, 1) := by decide +kernel
theorem dL_build_304 : decode cL_build 304 = .ok (.aload_n 1, 1) := by decide +kernel
theorem dL_build_305 : decode cL_build 305 = .ok (.sipush 133, 3) := by decide +kernel
theorem dL_build_308 : decode cL_build 308 = .ok (.iconst 2, 1) := by decide +kernel
theorem dL_build_309 : decode cL_build 309 = .ok (.invokestatic 163, 3) := by decide +kernel
theorem dL_build_312 : decode cL_build 312 = .ok (.invokestatic 179, 3) := by decide +kernel
theorem dL_build_315 : decode cL_build 315 = .ok (.pop, 1) := by decide +kernel
theorem dL_build_316 : decode cL_build 316 = .ok (.aload_n 0, 1) := by decide +kernel
theorem dL_build_317 : decode cL_build 317 = .ok (.iconst 5, 1) := by decide +kernel
theorem dL_build_318 : decode cL_build 318 = .ok (.iconst 1, 1) := by decide +kernel
theorem dL_build_319 : decode cL_build 319 = .ok (.iconst 1, 1) := by decide +kernel
theorem dL_build_320 : decode cL_build 320 = .ok (.invokestatic 179, 3) := by decide +kernel
theorem dL_build_323 : decode cL_build 323 = .ok (.pop, 1) := by decide +kernel
theorem dL_build_324 : decode cL_build 324 = .ok (.aload_n 0, 1) := by decide +kernel
theorem dL_build_325 : decode cL_build 325 = .ok (.bipush 6, 2) := by decide +kernel
theorem dL_build_327 : decode cL_build 327 = .ok (.iconst 0, 1) := by decide +kernel
theorem dL_build_328 : decode cL_build 328 = .ok (.iconst 1, 1) := by decide +kernel
theorem dL_build_329 : decode cL_build 329 = .ok (.invokestatic 179, 3) := by decide +kernel
theorem dL_build_332 : decode cL_build 332 = .ok (.pop, 1) := by decide +kernel
theorem dL_build_333 : decode cL_build 333 = .ok (.aload_n 0, 1) := by decide +kernel
theorem dL_build_334 : decode cL_build 334 = .ok (.bipush 6, 2) := by decide +kernel
theorem dL_build_336 : decode cL_build 336 = .ok (.iconst 1, 1) := by decide +kernel
theorem dL_build_337 : decode cL_build 337 = .ok (.iconst 1, 1) := by decide +kernel
theorem dL_build_338 : decode cL_build 338 = .ok (.invokestatic 179, 3) := by decide +kernel
theorem dL_build_341 : decode cL_build 341 = .ok (.pop, 1) := by decide +kernel
theorem dL_build_342 : decode cL_build 342 = .ok (.iconst 0, 1) := by decide +kernel
theorem dL_build_343 : decode cL_build 343 = .ok (.istore_n 2, 1) := by decide +kernel
theorem dL_build_344 : decode cL_build 344 = .ok (.iload_n 2, 1) := by decide +kernel
theorem dL_build_345 : decode cL_build 345 = .ok (.bipush 14, 2) := by decide +kernel
theorem dL_build_347 : decode cL_build 347 = .ok (.if_icmp .ge 53, 3) := by decide +kernel
theorem dL_build_350 : decode cL_build 350 = .ok (.aload_n 0, 1) := by decide +kernel
theorem dL_build_351 : decode cL_build 351 = .ok (.bipush 16, 2) := by decide +kernel
theorem dL_build_353 : decode cL_build 353 = .ok (.aload_n 1, 1) := by decide +kernel
theorem dL_build_354 : decode cL_build 354 = .ok (.sipush 134, 3) := by decide +kernel
theorem dL_build_357 : decode cL_build 357 = .ok (.iload_n 2, 1) := by decide +kernel
theorem dL_build_358 : decode cL_build 358 = .ok (.iadd, 1) := by decide +kernel
theorem dL_build_359 : decode cL_build 359 = .ok (.bipush 100, 2) := by decide +kernel
theorem dL_build_361 : decode cL_build 361 = .ok (.invokestatic 163, 3) := by decide +kernel
theorem dL_build_364 : decode cL_build 364 = .ok (.bipush 60, 2) := by decide +kernel
theorem dL_build_366 : decode cL_build 366 = .ok (.aload_n 1, 1) := by decide +kernel
theorem dL_build_367 : decode cL_build 367 = .ok (.sipush 150, 3) := by decide +kernel
theorem dL_build_370 : decode cL_build 370 = .ok (.iload_n 2, 1) := by decide +kernel
theorem dL_build_371 : decode cL_build 371 = .ok (.iadd, 1) := by decide +kernel
theorem dL_build_372 : decode cL_build 372 = .ok (.bipush 100, 2) := by decide +kernel
theorem dL_build_374 : decode cL_build 374 = .ok (.invokestatic 163, 3) := by decide +kernel
theorem dL_build_377 : decode cL_build 377 = .ok (.iadd, 1) := by decide +kernel
theorem dL_build_378 : decode cL_build 378 = .ok (.aload_n 1, 1) := by decide +kernel
theorem dL_build_379 : decode cL_build 379 = .ok (.sipush 166, 3) := by decide +kernel
theorem dL_build_382 : decode cL_build 382 = .ok (.iload_n 2, 1) := by decide +kernel
theorem dL_build_383 : decode cL_build 383 = .ok (.iadd, 1) := by decide +kernel
theorem dL_build_384 : decode cL_build 384 = .ok (.iconst 4, 1) := by decide +kernel
theorem dL_build_385 : decode cL_build 385 = .ok (.invokestatic 163, 3) := by decide +kernel
theorem dL_build_388 : decode cL_build 388 = .ok (.iconst 0, 1) := by decide +kernel
theorem dL_build_389 : decode cL_build 389 = .ok (.iconst 0, 1) := by decide +kernel
theorem dL_build_390 : decode cL_build 390 = .ok (.invokestatic 160, 3) := by decide +kernel
theorem dL_build_393 : decode cL_build 393 = .ok (.pop, 1) := by decide +kernel
theorem dL_build_394 : decode cL_build 394 = .ok (.iinc 2 1, 3) := by decide +kernel
theorem dL_build_397 : decode cL_build 397 = .ok (.goto (-53), 3) := by decide +kernel
theorem dL_build_400 : decode cL_build 400 = .ok (.return_, 1) := by decide +kernel
theorem dL_areTrainsApart_0 : decode cL_areTrainsApart 0 = .ok (.bipush 12, 2) := by decide +kernel
theorem dL_areTrainsApart_2 : decode cL_areTrainsApart 2 = .ok (.newarray .int, 2) := by decide +kernel
theorem dL_areTrainsApart_4 : decode cL_areTrainsApart 4 = .ok (.astore_n 2, 1) := by decide +kernel
theorem dL_areTrainsApart_5 : decode cL_areTrainsApart 5 = .ok (.iconst 0, 1) := by decide +kernel
theorem dL_areTrainsApart_6 : decode cL_areTrainsApart 6 = .ok (.istore_n 3, 1) := by decide +kernel
theorem dL_areTrainsApart_7 : decode cL_areTrainsApart 7 = .ok (.iconst 1, 1) := by decide +kernel
theorem dL_areTrainsApart_8 : decode cL_areTrainsApart 8 = .ok (.istore 4, 2) := by decide +kernel
theorem dL_areTrainsApart_10 : decode cL_areTrainsApart 10 = .ok (.aload_n 0, 1) := by decide +kernel
theorem dL_areTrainsApart_11 : decode cL_areTrainsApart 11 = .ok (.bipush 35, 2) := by decide +kernel
theorem dL_areTrainsApart_13 : decode cL_areTrainsApart 13 = .ok (.iload_n 1, 1) := by decide +kernel
theorem dL_areTrainsApart_14 : decode cL_areTrainsApart 14 = .ok (.iload_n 3, 1) := by decide +kernel
theorem dL_areTrainsApart_15 : decode cL_areTrainsApart 15 = .ok (.invokestatic 179, 3) := by decide +kernel
theorem dL_areTrainsApart_18 : decode cL_areTrainsApart 18 = .ok (.sipush (-2001), 3) := by decide +kernel
theorem dL_areTrainsApart_21 : decode cL_areTrainsApart 21 = .ok (.if_icmp .eq 103, 3) := by decide +kernel
theorem dL_areTrainsApart_24 : decode cL_areTrainsApart 24 = .ok (.aload_n 0, 1) := by decide +kernel
theorem dL_areTrainsApart_25 : decode cL_areTrainsApart 25 = .ok (.bipush 35, 2) := by decide +kernel
theorem dL_areTrainsApart_27 : decode cL_areTrainsApart 27 = .ok (.iload_n 1, 1) := by decide +kernel
theorem dL_areTrainsApart_28 : decode cL_areTrainsApart 28 = .ok (.iload_n 3, 1) := by decide +kernel
theorem dL_areTrainsApart_29 : decode cL_areTrainsApart 29 = .ok (.invokestatic 179, 3) := by decide +kernel
theorem dL_areTrainsApart_32 : decode cL_areTrainsApart 32 = .ok (.istore 5, 2) := by decide +kernel
theorem dL_areTrainsApart_34 : decode cL_areTrainsApart 34 = .ok (.aload_n 2, 1) := by decide +kernel
theorem dL_areTrainsApart_35 : decode cL_areTrainsApart 35 = .ok (.iload 5, 2) := by decide +kernel
theorem dL_areTrainsApart_37 : decode cL_areTrainsApart 37 = .ok (.dup2, 1) := by decide +kernel
theorem dL_areTrainsApart_38 : decode cL_areTrainsApart 38 = .ok (.iaload, 1) := by decide +kernel
theorem dL_areTrainsApart_39 : decode cL_areTrainsApart 39 = .ok (.iconst 1, 1) := by decide +kernel
theorem dL_areTrainsApart_40 : decode cL_areTrainsApart 40 = .ok (.iadd, 1) := by decide +kernel
theorem dL_areTrainsApart_41 : decode cL_areTrainsApart 41 = .ok (.iastore, 1) := by decide +kernel
theorem dL_areTrainsApart_42 : decode cL_areTrainsApart 42 = .ok (.aload_n 0, 1) := by decide +kernel
theorem dL_areTrainsApart_43 : decode cL_areTrainsApart 43 = .ok (.bipush 37, 2) := by decide +kernel
theorem dL_areTrainsApart_45 : decode cL_areTrainsApart 45 = .ok (.iload_n 1, 1) := by decide +kernel
theorem dL_areTrainsApart_46 : decode cL_areTrainsApart 46 = .ok (.iload_n 3, 1) := by decide +kernel
theorem dL_areTrainsApart_47 : decode cL_areTrainsApart 47 = .ok (.invokestatic 179, 3) := by decide +kernel
theorem dL_areTrainsApart_50 : decode cL_areTrainsApart 50 = .ok (.istore 6, 2) := by decide +kernel
theorem dL_areTrainsApart_52 : decode cL_areTrainsApart 52 = .ok (.iload 4, 2) := by decide +kernel
theorem dL_areTrainsApart_54 : decode cL_areTrainsApart 54 = .ok (.ifCond .eq 61, 3) := by decide +kernel
theorem dL_areTrainsApart_57 : decode cL_areTrainsApart 57 = .ok (.aload_n 0, 1) := by decide +kernel
theorem dL_areTrainsApart_58 : decode cL_areTrainsApart 58 = .ok (.bipush 32, 2) := by decide +kernel
theorem dL_areTrainsApart_60 : decode cL_areTrainsApart 60 = .ok (.iload_n 1, 1) := by decide +kernel
theorem dL_areTrainsApart_61 : decode cL_areTrainsApart 61 = .ok (.iload 5, 2) := by decide +kernel
theorem dL_areTrainsApart_63 : decode cL_areTrainsApart 63 = .ok (.invokestatic 179, 3) := by decide +kernel
theorem dL_areTrainsApart_66 : decode cL_areTrainsApart 66 = .ok (.iconst 1, 1) := by decide +kernel
theorem dL_areTrainsApart_67 : decode cL_areTrainsApart 67 = .ok (.if_icmp .ne 48, 3) := by decide +kernel
theorem dL_areTrainsApart_70 : decode cL_areTrainsApart 70 = .ok (.iload 6, 2) := by decide +kernel
theorem dL_areTrainsApart_72 : decode cL_areTrainsApart 72 = .ok (.bipush 115, 2) := by decide +kernel
theorem dL_areTrainsApart_74 : decode cL_areTrainsApart 74 = .ok (.if_icmp .ne 14, 3) := by decide +kernel
theorem dL_areTrainsApart_77 : decode cL_areTrainsApart 77 = .ok (.aload_n 0, 1) := by decide +kernel
theorem dL_areTrainsApart_78 : decode cL_areTrainsApart 78 = .ok (.bipush 36, 2) := by decide +kernel
theorem dL_areTrainsApart_80 : decode cL_areTrainsApart 80 = .ok (.iload_n 1, 1) := by decide +kernel
theorem dL_areTrainsApart_81 : decode cL_areTrainsApart 81 = .ok (.iload_n 3, 1) := by decide +kernel
theorem dL_areTrainsApart_82 : decode cL_areTrainsApart 82 = .ok (.invokestatic 179, 3) := by decide +kernel
theorem dL_areTrainsApart_85 : decode cL_areTrainsApart 85 = .ok (.ifCond .ne 30, 3) := by decide +kernel
theorem dL_areTrainsApart_88 : decode cL_areTrainsApart 88 = .ok (.iload 6, 2) := by decide +kernel
theorem dL_areTrainsApart_90 : decode cL_areTrainsApart 90 = .ok (.bipush 115, 2) := by decide +kernel
theorem dL_areTrainsApart_92 : decode cL_areTrainsApart 92 = .ok (.if_icmp .ne 19, 3) := by decide +kernel
theorem dL_areTrainsApart_95 : decode cL_areTrainsApart 95 = .ok (.iload 5, 2) := by decide +kernel
theorem dL_areTrainsApart_97 : decode cL_areTrainsApart 97 = .ok (.ifCond .ne 14, 3) := by decide +kernel
theorem dL_areTrainsApart_100 : decode cL_areTrainsApart 100 = .ok (.aload_n 0, 1) := by decide +kernel
theorem dL_areTrainsApart_101 : decode cL_areTrainsApart 101 = .ok (.bipush 38, 2) := by decide +kernel
theorem dL_areTrainsApart_103 : decode cL_areTrainsApart 103 = .ok (.iload_n 1, 1) := by decide +kernel
theorem dL_areTrainsApart_104 : decode cL_areTrainsApart 104 = .ok (.iload_n 3, 1) := by decide +kernel
theorem dL_areTrainsApart_105 : decode cL_areTrainsApart 105 = .ok (.invokestatic 179, 3) := by decide +kernel
theorem dL_areTrainsApart_108 : decode cL_areTrainsApart 108 = .ok (.ifCond .ne 7, 3) := by decide +kernel
theorem dL_areTrainsApart_111 : decode cL_areTrainsApart 111 = .ok (.iconst 1, 1) := by decide +kernel
theorem dL_areTrainsApart_112 : decode cL_areTrainsApart 112 = .ok (.goto 4, 3) := by decide +kernel
theorem dL_areTrainsApart_115 : decode cL_areTrainsApart 115 = .ok (.iconst 0, 1) := by decide +kernel
theorem dL_areTrainsApart_116 : decode cL_areTrainsApart 116 = .ok (.istore 4, 2) := by decide +kernel
theorem dL_areTrainsApart_118 : decode cL_areTrainsApart 118 = .ok (.iinc 3 1, 3) := by decide +kernel
theorem dL_areTrainsApart_121 : decode cL_areTrainsApart 121 = .ok (.goto (-111), 3) := by decide +kernel
theorem dL_areTrainsApart_124 : decode cL_areTrainsApart 124 = .ok (.iconst 0, 1) := by decide +kernel
theorem dL_areTrainsApart_125 : decode cL_areTrainsApart 125 = .ok (.istore 5, 2) := by decide +kernel
theorem dL_areTrainsApart_127 : decode cL_areTrainsApart 127 = .ok (.iconst 1, 1) := by decide +kernel
theorem dL_areTrainsApart_128 : decode cL_areTrainsApart 128 = .ok (.istore 6, 2) := by decide +kernel
theorem dL_areTrainsApart_130 : decode cL_areTrainsApart 130 = .ok (.iconst 0, 1) := by decide +kernel
theorem dL_areTrainsApart_131 : decode cL_areTrainsApart 131 = .ok (.istore 7, 2) := by decide +kernel
theorem dL_areTrainsApart_133 : decode cL_areTrainsApart 133 = .ok (.iload 7, 2) := by decide +kernel
theorem dL_areTrainsApart_135 : decode cL_areTrainsApart 135 = .ok (.iload_n 3, 1) := by decide +kernel
theorem dL_areTrainsApart_136 : decode cL_areTrainsApart 136 = .ok (.if_icmp .ge 35, 3) := by decide +kernel
theorem dL_areTrainsApart_139 : decode cL_areTrainsApart 139 = .ok (.iload 6, 2) := by decide +kernel
theorem dL_areTrainsApart_141 : decode cL_areTrainsApart 141 = .ok (.ifCond .eq 21, 3) := by decide +kernel
theorem dL_areTrainsApart_144 : decode cL_areTrainsApart 144 = .ok (.aload_n 0, 1) := by decide +kernel
theorem dL_areTrainsApart_145 : decode cL_areTrainsApart 145 = .ok (.bipush 37, 2) := by decide +kernel
theorem dL_areTrainsApart_147 : decode cL_areTrainsApart 147 = .ok (.iload_n 1, 1) := by decide +kernel
theorem dL_areTrainsApart_148 : decode cL_areTrainsApart 148 = .ok (.iload 7, 2) := by decide +kernel
theorem dL_areTrainsApart_150 : decode cL_areTrainsApart 150 = .ok (.invokestatic 179, 3) := by decide +kernel
theorem dL_areTrainsApart_153 : decode cL_areTrainsApart 153 = .ok (.bipush 115, 2) := by decide +kernel
theorem dL_areTrainsApart_155 : decode cL_areTrainsApart 155 = .ok (.if_icmp .ne 7, 3) := by decide +kernel
theorem dL_areTrainsApart_158 : decode cL_areTrainsApart 158 = .ok (.iconst 1, 1) := by decide +kernel
theorem dL_areTrainsApart_159 : decode cL_areTrainsApart 159 = .ok (.goto 4, 3) := by decide +kernel
theorem dL_areTrainsApart_162 : decode cL_areTrainsApart 162 = .ok (.iconst 0, 1) := by decide +kernel
theorem dL_areTrainsApart_163 : decode cL_areTrainsApart 163 = .ok (.istore 6, 2) := by decide +kernel
theorem dL_areTrainsApart_165 : decode cL_areTrainsApart 165 = .ok (.iinc 7 1, 3) := by decide +kernel
theorem dL_areTrainsApart_168 : decode cL_areTrainsApart 168 = .ok (.goto (-35), 3) := by decide +kernel
theorem dL_areTrainsApart_171 : decode cL_areTrainsApart 171 = .ok (.iconst 0, 1) := by decide +kernel
theorem dL_areTrainsApart_172 : decode cL_areTrainsApart 172 = .ok (.istore 7, 2) := by decide +kernel
theorem dL_areTrainsApart_174 : decode cL_areTrainsApart 174 = .ok (.iload 7, 2) := by decide +kernel
theorem dL_areTrainsApart_176 : decode cL_areTrainsApart 176 = .ok (.bipush 12, 2) := by decide +kernel
theorem dL_areTrainsApart_178 : decode cL_areTrainsApart 178 = .ok (.if_icmp .ge 58, 3) := by decide +kernel
theorem dL_areTrainsApart_181 : decode cL_areTrainsApart 181 = .ok (.aload_n 0, 1) := by decide +kernel
theorem dL_areTrainsApart_182 : decode cL_areTrainsApart 182 = .ok (.bipush 32, 2) := by decide +kernel
theorem dL_areTrainsApart_184 : decode cL_areTrainsApart 184 = .ok (.iload_n 1, 1) := by decide +kernel
theorem dL_areTrainsApart_185 : decode cL_areTrainsApart 185 = .ok (.iload 7, 2) := by decide +kernel
theorem dL_areTrainsApart_187 : decode cL_areTrainsApart 187 = .ok (.invokestatic 179, 3) := by decide +kernel
theorem dL_areTrainsApart_190 : decode cL_areTrainsApart 190 = .ok (.sipush (-2001), 3) := by decide +kernel
theorem dL_areTrainsApart_193 : decode cL_areTrainsApart 193 = .ok (.if_icmp .eq 43, 3) := by decide +kernel
theorem dL_areTrainsApart_196 : decode cL_areTrainsApart 196 = .ok (.iload 5, 2) := by decide +kernel
theorem dL_areTrainsApart_198 : decode cL_areTrainsApart 198 = .ok (.aload_n 0, 1) := by decide +kernel
theorem dL_areTrainsApart_199 : decode cL_areTrainsApart 199 = .ok (.bipush 32, 2) := by decide +kernel
theorem dL_areTrainsApart_201 : decode cL_areTrainsApart 201 = .ok (.iload_n 1, 1) := by decide +kernel
theorem dL_areTrainsApart_202 : decode cL_areTrainsApart 202 = .ok (.iload 7, 2) := by decide +kernel
theorem dL_areTrainsApart_204 : decode cL_areTrainsApart 204 = .ok (.invokestatic 179, 3) := by decide +kernel
theorem dL_areTrainsApart_207 : decode cL_areTrainsApart 207 = .ok (.iadd, 1) := by decide +kernel
theorem dL_areTrainsApart_208 : decode cL_areTrainsApart 208 = .ok (.istore 5, 2) := by decide +kernel
theorem dL_areTrainsApart_210 : decode cL_areTrainsApart 210 = .ok (.iload 4, 2) := by decide +kernel
theorem dL_areTrainsApart_212 : decode cL_areTrainsApart 212 = .ok (.ifCond .eq 15, 3) := by decide +kernel
theorem dL_areTrainsApart_215 : decode cL_areTrainsApart 215 = .ok (.aload_n 2, 1) := by decide +kernel
theorem dL_areTrainsApart_216 : decode cL_areTrainsApart 216 = .ok (.iload 7, 2) := by decide +kernel
theorem dL_areTrainsApart_218 : decode cL_areTrainsApart 218 = .ok (.iaload, 1) := by decide +kernel
theorem dL_areTrainsApart_219 : decode cL_areTrainsApart 219 = .ok (.iconst 1, 1) := by decide +kernel
theorem dL_areTrainsApart_220 : decode cL_areTrainsApart 220 = .ok (.if_icmp .gt 7, 3) := by decide +kernel
theorem dL_areTrainsApart_223 : decode cL_areTrainsApart 223 = .ok (.iconst 1, 1) := by decide +kernel
theorem dL_areTrainsApart_224 : decode cL_areTrainsApart 224 = .ok (.goto 4, 3) := by decide +kernel
theorem dL_areTrainsApart_227 : decode cL_areTrainsApart 227 = .ok (.iconst 0, 1) := by decide +kernel
theorem dL_areTrainsApart_228 : decode cL_areTrainsApart 228 = .ok (.istore 4, 2) := by decide +kernel
theorem dL_areTrainsApart_230 : decode cL_areTrainsApart 230 = .ok (.iinc 7 1, 3) := by decide +kernel
theorem dL_areTrainsApart_233 : decode cL_areTrainsApart 233 = .ok (.goto (-59), 3) := by decide +kernel
theorem dL_areTrainsApart_236 : decode cL_areTrainsApart 236 = .ok (.iload 4, 2) := by decide +kernel
theorem dL_areTrainsApart_238 : decode cL_areTrainsApart 238 = .ok (.ifCond .eq 18, 3) := by decide +kernel
theorem dL_areTrainsApart_241 : decode cL_areTrainsApart 241 = .ok (.iload 6, 2) := by decide +kernel
theorem dL_areTrainsApart_243 : decode cL_areTrainsApart 243 = .ok (.ifCond .eq 9, 3) := by decide +kernel
theorem dL_areTrainsApart_246 : decode cL_areTrainsApart 246 = .ok (.iload 5, 2) := by decide +kernel
theorem dL_areTrainsApart_248 : decode cL_areTrainsApart 248 = .ok (.iload_n 3, 1) := by decide +kernel
theorem dL_areTrainsApart_249 : decode cL_areTrainsApart 249 = .ok (.if_icmp .ne 7, 3) := by decide +kernel
theorem dL_areTrainsApart_252 : decode cL_areTrainsApart 252 = .ok (.iconst 1, 1) := by decide +kernel
theorem dL_areTrainsApart_253 : decode cL_areTrainsApart 253 = .ok (.goto 4, 3) := by decide +kernel
theorem dL_areTrainsApart_256 : decode cL_areTrainsApart 256 = .ok (.iconst 0, 1) := by decide +kernel
theorem dL_areTrainsApart_257 : decode cL_areTrainsApart 257 = .ok (.ireturn, 1) := by decide +kernel
theorem dL_areGuestsRight_0 : decode cL_areGuestsRight 0 = .ok (.iconst 0, 1) := by decide +kernel
theorem dL_areGuestsRight_1 : decode cL_areGuestsRight 1 = .ok (.istore 5, 2) := by decide +kernel
theorem dL_areGuestsRight_3 : decode cL_areGuestsRight 3 = .ok (.iconst 0, 1) := by decide +kernel
theorem dL_areGuestsRight_4 : decode cL_areGuestsRight 4 = .ok (.istore 6, 2) := by decide +kernel
theorem dL_areGuestsRight_6 : decode cL_areGuestsRight 6 = .ok (.iconst 0, 1) := by decide +kernel
theorem dL_areGuestsRight_7 : decode cL_areGuestsRight 7 = .ok (.istore 7, 2) := by decide +kernel
theorem dL_areGuestsRight_9 : decode cL_areGuestsRight 9 = .ok (.iload 7, 2) := by decide +kernel
theorem dL_areGuestsRight_11 : decode cL_areGuestsRight 11 = .ok (.iconst 2, 1) := by decide +kernel
theorem dL_areGuestsRight_12 : decode cL_areGuestsRight 12 = .ok (.if_icmp .ge 86, 3) := by decide +kernel
theorem dL_areGuestsRight_15 : decode cL_areGuestsRight 15 = .ok (.iload 5, 2) := by decide +kernel
theorem dL_areGuestsRight_17 : decode cL_areGuestsRight 17 = .ok (.aload_n 0, 1) := by decide +kernel
theorem dL_areGuestsRight_18 : decode cL_areGuestsRight 18 = .ok (.bipush 39, 2) := by decide +kernel
theorem dL_areGuestsRight_20 : decode cL_areGuestsRight 20 = .ok (.iload 7, 2) := by decide +kernel
theorem dL_areGuestsRight_22 : decode cL_areGuestsRight 22 = .ok (.bipush 108, 2) := by decide +kernel
theorem dL_areGuestsRight_24 : decode cL_areGuestsRight 24 = .ok (.invokestatic 179, 3) := by decide +kernel
theorem dL_areGuestsRight_27 : decode cL_areGuestsRight 27 = .ok (.aload_n 0, 1) := by decide +kernel
theorem dL_areGuestsRight_28 : decode cL_areGuestsRight 28 = .ok (.bipush 39, 2) := by decide +kernel
theorem dL_areGuestsRight_30 : decode cL_areGuestsRight 30 = .ok (.iload 7, 2) := by decide +kernel
theorem dL_areGuestsRight_32 : decode cL_areGuestsRight 32 = .ok (.bipush 115, 2) := by decide +kernel
theorem dL_areGuestsRight_34 : decode cL_areGuestsRight 34 = .ok (.invokestatic 179, 3) := by decide +kernel
theorem dL_areGuestsRight_37 : decode cL_areGuestsRight 37 = .ok (.iadd, 1) := by decide +kernel
theorem dL_areGuestsRight_38 : decode cL_areGuestsRight 38 = .ok (.aload_n 0, 1) := by decide +kernel
theorem dL_areGuestsRight_39 : decode cL_areGuestsRight 39 = .ok (.bipush 39, 2) := by decide +kernel
theorem dL_areGuestsRight_41 : decode cL_areGuestsRight 41 = .ok (.iload 7, 2) := by decide +kernel
theorem dL_areGuestsRight_43 : decode cL_areGuestsRight 43 = .ok (.bipush 114, 2) := by decide +kernel
theorem dL_areGuestsRight_45 : decode cL_areGuestsRight 45 = .ok (.invokestatic 179, 3) := by decide +kernel
theorem dL_areGuestsRight_48 : decode cL_areGuestsRight 48 = .ok (.iadd, 1) := by decide +kernel
theorem dL_areGuestsRight_49 : decode cL_areGuestsRight 49 = .ok (.iadd, 1) := by decide +kernel
theorem dL_areGuestsRight_50 : decode cL_areGuestsRight 50 = .ok (.istore 5, 2) := by decide +kernel
theorem dL_areGuestsRight_52 : decode cL_areGuestsRight 52 = .ok (.iconst 0, 1) := by decide +kernel
theorem dL_areGuestsRight_53 : decode cL_areGuestsRight 53 = .ok (.istore 8, 2) := by decide +kernel
theorem dL_areGuestsRight_55 : decode cL_areGuestsRight 55 = .ok (.aload_n 0, 1) := by decide +kernel
theorem dL_areGuestsRight_56 : decode cL_areGuestsRight 56 = .ok (.bipush 38, 2) := by decide +kernel
theorem dL_areGuestsRight_58 : decode cL_areGuestsRight 58 = .ok (.iload 7, 2) := by decide +kernel
theorem dL_areGuestsRight_60 : decode cL_areGuestsRight 60 = .ok (.iload 8, 2) := by decide +kernel
theorem dL_areGuestsRight_62 : decode cL_areGuestsRight 62 = .ok (.invokestatic 179, 3) := by decide +kernel
theorem dL_areGuestsRight_65 : decode cL_areGuestsRight 65 = .ok (.sipush (-2001), 3) := by decide +kernel
theorem dL_areGuestsRight_68 : decode cL_areGuestsRight 68 = .ok (.if_icmp .eq 24, 3) := by decide +kernel
theorem dL_areGuestsRight_71 : decode cL_areGuestsRight 71 = .ok (.iload 6, 2) := by decide +kernel
theorem dL_areGuestsRight_73 : decode cL_areGuestsRight 73 = .ok (.aload_n 0, 1) := by decide +kernel
theorem dL_areGuestsRight_74 : decode cL_areGuestsRight 74 = .ok (.bipush 38, 2) := by decide +kernel
theorem dL_areGuestsRight_76 : decode cL_areGuestsRight 76 = .ok (.iload 7, 2) := by decide +kernel
theorem dL_areGuestsRight_78 : decode cL_areGuestsRight 78 = .ok (.iload 8, 2) := by decide +kernel
theorem dL_areGuestsRight_80 : decode cL_areGuestsRight 80 = .ok (.invokestatic 179, 3) := by decide +kernel
theorem dL_areGuestsRight_83 : decode cL_areGuestsRight 83 = .ok (.iadd, 1) := by decide +kernel
theorem dL_areGuestsRight_84 : decode cL_areGuestsRight 84 = .ok (.istore 6, 2) := by decide +kernel
theorem dL_areGuestsRight_86 : decode cL_areGuestsRight 86 = .ok (.iinc 8 1, 3) := by decide +kernel
theorem dL_areGuestsRight_89 : decode cL_areGuestsRight 89 = .ok (.goto (-34), 3) := by decide +kernel
theorem dL_areGuestsRight_92 : decode cL_areGuestsRight 92 = .ok (.iinc 7 1, 3) := by decide +kernel
theorem dL_areGuestsRight_95 : decode cL_areGuestsRight 95 = .ok (.goto (-86), 3) := by decide +kernel
theorem dL_areGuestsRight_98 : decode cL_areGuestsRight 98 = .ok (.iconst 1, 1) := by decide +kernel
theorem dL_areGuestsRight_99 : decode cL_areGuestsRight 99 = .ok (.istore 7, 2) := by decide +kernel
theorem dL_areGuestsRight_101 : decode cL_areGuestsRight 101 = .ok (.iconst 0, 1) := by decide +kernel
theorem dL_areGuestsRight_102 : decode cL_areGuestsRight 102 = .ok (.istore 8, 2) := by decide +kernel
theorem dL_areGuestsRight_104 : decode cL_areGuestsRight 104 = .ok (.iload 8, 2) := by decide +kernel
theorem dL_areGuestsRight_106 : decode cL_areGuestsRight 106 = .ok (.aload_n 0, 1) := by decide +kernel
theorem dL_areGuestsRight_107 : decode cL_areGuestsRight 107 = .ok (.invokevirtual 183, 3) := by decide +kernel
theorem dL_areGuestsRight_110 : decode cL_areGuestsRight 110 = .ok (.if_icmp .ge 115, 3) := by decide +kernel
theorem dL_areGuestsRight_113 : decode cL_areGuestsRight 113 = .ok (.aload_n 0, 1) := by decide +kernel
theorem dL_areGuestsRight_114 : decode cL_areGuestsRight 114 = .ok (.bipush 40, 2) := by decide +kernel
theorem dL_areGuestsRight_116 : decode cL_areGuestsRight 116 = .ok (.iload 8, 2) := by decide +kernel
theorem dL_areGuestsRight_118 : decode cL_areGuestsRight 118 = .ok (.iconst 0, 1) := by decide +kernel
theorem dL_areGuestsRight_119 : decode cL_areGuestsRight 119 = .ok (.invokestatic 179, 3) := by decide +kernel
theorem dL_areGuestsRight_122 : decode cL_areGuestsRight 122 = .ok (.istore 9, 2) := by decide +kernel
theorem dL_areGuestsRight_124 : decode cL_areGuestsRight 124 = .ok (.iload 5, 2) := by decide +kernel
theorem dL_areGuestsRight_126 : decode cL_areGuestsRight 126 = .ok (.iload 9, 2) := by decide +kernel
theorem dL_areGuestsRight_128 : decode cL_areGuestsRight 128 = .ok (.bipush 113, 2) := by decide +kernel
theorem dL_areGuestsRight_130 : decode cL_areGuestsRight 130 = .ok (.if_icmp .ne 7, 3) := by decide +kernel
theorem dL_areGuestsRight_133 : decode cL_areGuestsRight 133 = .ok (.iconst 1, 1) := by decide +kernel
theorem dL_areGuestsRight_134 : decode cL_areGuestsRight 134 = .ok (.goto 4, 3) := by decide +kernel
theorem dL_areGuestsRight_137 : decode cL_areGuestsRight 137 = .ok (.iconst 0, 1) := by decide +kernel
theorem dL_areGuestsRight_138 : decode cL_areGuestsRight 138 = .ok (.invokestatic 62, 3) := by decide +kernel
theorem dL_areGuestsRight_141 : decode cL_areGuestsRight 141 = .ok (.isub, 1) := by decide +kernel
theorem dL_areGuestsRight_142 : decode cL_areGuestsRight 142 = .ok (.istore 5, 2) := by decide +kernel
theorem dL_areGuestsRight_144 : decode cL_areGuestsRight 144 = .ok (.iload 6, 2) := by decide +kernel
theorem dL_areGuestsRight_146 : decode cL_areGuestsRight 146 = .ok (.iload 9, 2) := by decide +kernel
theorem dL_areGuestsRight_148 : decode cL_areGuestsRight 148 = .ok (.bipush 116, 2) := by decide +kernel
theorem dL_areGuestsRight_150 : decode cL_areGuestsRight 150 = .ok (.if_icmp .ne 7, 3) := by decide +kernel
theorem dL_areGuestsRight_153 : decode cL_areGuestsRight 153 = .ok (.iconst 1, 1) := by decide +kernel
theorem dL_areGuestsRight_154 : decode cL_areGuestsRight 154 = .ok (.goto 4, 3) := by decide +kernel
theorem dL_areGuestsRight_157 : decode cL_areGuestsRight 157 = .ok (.iconst 0, 1) := by decide +kernel
theorem dL_areGuestsRight_158 : decode cL_areGuestsRight 158 = .ok (.invokestatic 62, 3) := by decide +kernel
theorem dL_areGuestsRight_161 : decode cL_areGuestsRight 161 = .ok (.isub, 1) := by decide +kernel
theorem dL_areGuestsRight_162 : decode cL_areGuestsRight 162 = .ok (.istore 6, 2) := by decide +kernel
theorem dL_areGuestsRight_164 : decode cL_areGuestsRight 164 = .ok (.iload 7, 2) := by decide +kernel
theorem dL_areGuestsRight_166 : decode cL_areGuestsRight 166 = .ok (.ifCond .eq 50, 3) := by decide +kernel
theorem dL_areGuestsRight_169 : decode cL_areGuestsRight 169 = .ok (.aload_n 0, 1) := by decide +kernel
theorem dL_areGuestsRight_170 : decode cL_areGuestsRight 170 = .ok (.bipush 41, 2) := by decide +kernel
theorem dL_areGuestsRight_172 : decode cL_areGuestsRight 172 = .ok (.iload 8, 2) := by decide +kernel
theorem dL_areGuestsRight_174 : decode cL_areGuestsRight 174 = .ok (.bipush 109, 2) := by decide +kernel
theorem dL_areGuestsRight_176 : decode cL_areGuestsRight 176 = .ok (.invokestatic 179, 3) := by decide +kernel
theorem dL_areGuestsRight_179 : decode cL_areGuestsRight 179 = .ok (.ifCond .lt 37, 3) := by decide +kernel
theorem dL_areGuestsRight_182 : decode cL_areGuestsRight 182 = .ok (.aload_n 0, 1) := by decide +kernel
theorem dL_areGuestsRight_183 : decode cL_areGuestsRight 183 = .ok (.bipush 41, 2) := by decide +kernel
theorem dL_areGuestsRight_185 : decode cL_areGuestsRight 185 = .ok (.iload 8, 2) := by decide +kernel
theorem dL_areGuestsRight_187 : decode cL_areGuestsRight 187 = .ok (.bipush 110, 2) := by decide +kernel
theorem dL_areGuestsRight_189 : decode cL_areGuestsRight 189 = .ok (.invokestatic 179, 3) := by decide +kernel
theorem dL_areGuestsRight_192 : decode cL_areGuestsRight 192 = .ok (.bipush 99, 2) := by decide +kernel
theorem dL_areGuestsRight_194 : decode cL_areGuestsRight 194 = .ok (.if_icmp .gt 22, 3) := by decide +kernel
theorem dL_areGuestsRight_197 : decode cL_areGuestsRight 197 = .ok (.aload_n 0, 1) := by decide +kernel
theorem dL_areGuestsRight_198 : decode cL_areGuestsRight 198 = .ok (.bipush 41, 2) := by decide +kernel
theorem dL_areGuestsRight_200 : decode cL_areGuestsRight 200 = .ok (.iload 8, 2) := by decide +kernel
theorem dL_areGuestsRight_202 : decode cL_areGuestsRight 202 = .ok (.bipush 104, 2) := by decide +kernel
theorem dL_areGuestsRight_204 : decode cL_areGuestsRight 204 = .ok (.invokestatic 179, 3) := by decide +kernel
theorem dL_areGuestsRight_207 : decode cL_areGuestsRight 207 = .ok (.bipush 99, 2) := by decide +kernel
theorem dL_areGuestsRight_209 : decode cL_areGuestsRight 209 = .ok (.if_icmp .gt 7, 3) := by decide +kernel
theorem dL_areGuestsRight_212 : decode cL_areGuestsRight 212 = .ok (.iconst 1, 1) := by decide +kernel
theorem dL_areGuestsRight_213 : decode cL_areGuestsRight 213 = .ok (.goto 4, 3) := by decide +kernel
theorem dL_areGuestsRight_216 : decode cL_areGuestsRight 216 = .ok (.iconst 0, 1) := by decide +kernel
theorem dL_areGuestsRight_217 : decode cL_areGuestsRight 217 = .ok (.istore 7, 2) := by decide +kernel
theorem dL_areGuestsRight_219 : decode cL_areGuestsRight 219 = .ok (.iinc 8 1, 3) := by decide +kernel
theorem dL_areGuestsRight_222 : decode cL_areGuestsRight 222 = .ok (.goto (-118), 3) := by decide +kernel
theorem dL_areGuestsRight_225 : decode cL_areGuestsRight 225 = .ok (.iload 7, 2) := by decide +kernel
theorem dL_areGuestsRight_227 : decode cL_areGuestsRight 227 = .ok (.ifCond .eq 44, 3) := by decide +kernel
theorem dL_areGuestsRight_230 : decode cL_areGuestsRight 230 = .ok (.iload 5, 2) := by decide +kernel
theorem dL_areGuestsRight_232 : decode cL_areGuestsRight 232 = .ok (.ifCond .ne 39, 3) := by decide +kernel
theorem dL_areGuestsRight_235 : decode cL_areGuestsRight 235 = .ok (.iload 6, 2) := by decide +kernel
theorem dL_areGuestsRight_237 : decode cL_areGuestsRight 237 = .ok (.ifCond .ne 34, 3) := by decide +kernel
theorem dL_areGuestsRight_240 : decode cL_areGuestsRight 240 = .ok (.aload_n 0, 1) := by decide +kernel
theorem dL_areGuestsRight_241 : decode cL_areGuestsRight 241 = .ok (.invokevirtual 186, 3) := by decide +kernel
theorem dL_areGuestsRight_244 : decode cL_areGuestsRight 244 = .ok (.lload_n 3, 1) := by decide +kernel
theorem dL_areGuestsRight_245 : decode cL_areGuestsRight 245 = .ok (.ladd, 1) := by decide +kernel
theorem dL_areGuestsRight_246 : decode cL_areGuestsRight 246 = .ok (.lload_n 1, 1) := by decide +kernel
theorem dL_areGuestsRight_247 : decode cL_areGuestsRight 247 = .ok (.lcmp, 1) := by decide +kernel
theorem dL_areGuestsRight_248 : decode cL_areGuestsRight 248 = .ok (.ifCond .ne 23, 3) := by decide +kernel
theorem dL_areGuestsRight_251 : decode cL_areGuestsRight 251 = .ok (.aload_n 0, 1) := by decide +kernel
theorem dL_areGuestsRight_252 : decode cL_areGuestsRight 252 = .ok (.invokevirtual 190, 3) := by decide +kernel
theorem dL_areGuestsRight_255 : decode cL_areGuestsRight 255 = .ok (.lconst 0, 1) := by decide +kernel
theorem dL_areGuestsRight_256 : decode cL_areGuestsRight 256 = .ok (.lcmp, 1) := by decide +kernel
theorem dL_areGuestsRight_257 : decode cL_areGuestsRight 257 = .ok (.ifCond .lt 14, 3) := by decide +kernel
theorem dL_areGuestsRight_260 : decode cL_areGuestsRight 260 = .ok (.aload_n 0, 1) := by decide +kernel
theorem dL_areGuestsRight_261 : decode cL_areGuestsRight 261 = .ok (.invokevirtual 193, 3) := by decide +kernel
theorem dL_areGuestsRight_264 : decode cL_areGuestsRight 264 = .ok (.ifCond .eq 7, 3) := by decide +kernel
theorem dL_areGuestsRight_267 : decode cL_areGuestsRight 267 = .ok (.iconst 1, 1) := by decide +kernel
theorem dL_areGuestsRight_268 : decode cL_areGuestsRight 268 = .ok (.goto 4, 3) := by decide +kernel
theorem dL_areGuestsRight_271 : decode cL_areGuestsRight 271 = .ok (.iconst 0, 1) := by decide +kernel
theorem dL_areGuestsRight_272 : decode cL_areGuestsRight 272 = .ok (.ireturn, 1) := by decide +kernel
theorem dL_isDispatched_0 : decode cL_isDispatched 0 = .ok (.aload_n 0, 1) := by decide +kernel
theorem dL_isDispatched_1 : decode cL_isDispatched 1 = .ok (.bipush 30, 2) := by decide +kernel
theorem dL_isDispatched_3 : decode cL_isDispatched 3 = .ok (.iload_n 1, 1) := by decide +kernel
theorem dL_isDispatched_4 : decode cL_isDispatched 4 = .ok (.iconst 0, 1) := by decide +kernel
theorem dL_isDispatched_5 : decode cL_isDispatched 5 = .ok (.invokestatic 179, 3) := by decide +kernel
theorem dL_isDispatched_8 : decode cL_isDispatched 8 = .ok (.istore_n 2, 1) := by decide +kernel
theorem dL_isDispatched_9 : decode cL_isDispatched 9 = .ok (.aload_n 0, 1) := by decide +kernel
theorem dL_isDispatched_10 : decode cL_isDispatched 10 = .ok (.bipush 43, 2) := by decide +kernel
theorem dL_isDispatched_12 : decode cL_isDispatched 12 = .ok (.iload_n 1, 1) := by decide +kernel
theorem dL_isDispatched_13 : decode cL_isDispatched 13 = .ok (.iconst 0, 1) := by decide +kernel
theorem dL_isDispatched_14 : decode cL_isDispatched 14 = .ok (.invokestatic 179, 3) := by decide +kernel
theorem dL_isDispatched_17 : decode cL_isDispatched 17 = .ok (.istore_n 3, 1) := by decide +kernel
theorem dL_isDispatched_18 : decode cL_isDispatched 18 = .ok (.aload_n 0, 1) := by decide +kernel
theorem dL_isDispatched_19 : decode cL_isDispatched 19 = .ok (.bipush 39, 2) := by decide +kernel
theorem dL_isDispatched_21 : decode cL_isDispatched 21 = .ok (.iload_n 1, 1) := by decide +kernel
theorem dL_isDispatched_22 : decode cL_isDispatched 22 = .ok (.bipush 108, 2) := by decide +kernel
theorem dL_isDispatched_24 : decode cL_isDispatched 24 = .ok (.invokestatic 179, 3) := by decide +kernel
theorem dL_isDispatched_27 : decode cL_isDispatched 27 = .ok (.aload_n 0, 1) := by decide +kernel
theorem dL_isDispatched_28 : decode cL_isDispatched 28 = .ok (.bipush 39, 2) := by decide +kernel
theorem dL_isDispatched_30 : decode cL_isDispatched 30 = .ok (.iload_n 1, 1) := by decide +kernel
theorem dL_isDispatched_31 : decode cL_isDispatched 31 = .ok (.bipush 115, 2) := by decide +kernel
theorem dL_isDispatched_33 : decode cL_isDispatched 33 = .ok (.invokestatic 179, 3) := by decide +kernel
theorem dL_isDispatched_36 : decode cL_isDispatched 36 = .ok (.iadd, 1) := by decide +kernel
theorem dL_isDispatched_37 : decode cL_isDispatched 37 = .ok (.aload_n 0, 1) := by decide +kernel
theorem dL_isDispatched_38 : decode cL_isDispatched 38 = .ok (.bipush 39, 2) := by decide +kernel
theorem dL_isDispatched_40 : decode cL_isDispatched 40 = .ok (.iload_n 1, 1) := by decide +kernel
theorem dL_isDispatched_41 : decode cL_isDispatched 41 = .ok (.bipush 114, 2) := by decide +kernel
theorem dL_isDispatched_43 : decode cL_isDispatched 43 = .ok (.invokestatic 179, 3) := by decide +kernel
theorem dL_isDispatched_46 : decode cL_isDispatched 46 = .ok (.iadd, 1) := by decide +kernel
theorem dL_isDispatched_47 : decode cL_isDispatched 47 = .ok (.istore 4, 2) := by decide +kernel
theorem dL_isDispatched_49 : decode cL_isDispatched 49 = .ok (.aload_n 0, 1) := by decide +kernel
theorem dL_isDispatched_50 : decode cL_isDispatched 50 = .ok (.bipush 13, 2) := by decide +kernel
theorem dL_isDispatched_52 : decode cL_isDispatched 52 = .ok (.iload_n 1, 1) := by decide +kernel
theorem dL_isDispatched_53 : decode cL_isDispatched 53 = .ok (.iconst 0, 1) := by decide +kernel
theorem dL_isDispatched_54 : decode cL_isDispatched 54 = .ok (.invokestatic 179, 3) := by decide +kernel
theorem dL_isDispatched_57 : decode cL_isDispatched 57 = .ok (.istore 5, 2) := by decide +kernel
theorem dL_isDispatched_59 : decode cL_isDispatched 59 = .ok (.aload_n 0, 1) := by decide +kernel
theorem dL_isDispatched_60 : decode cL_isDispatched 60 = .ok (.bipush 39, 2) := by decide +kernel
theorem dL_isDispatched_62 : decode cL_isDispatched 62 = .ok (.iload_n 1, 1) := by decide +kernel
theorem dL_isDispatched_63 : decode cL_isDispatched 63 = .ok (.bipush 108, 2) := by decide +kernel
theorem dL_isDispatched_65 : decode cL_isDispatched 65 = .ok (.invokestatic 179, 3) := by decide +kernel
theorem dL_isDispatched_68 : decode cL_isDispatched 68 = .ok (.aload_n 0, 1) := by decide +kernel
theorem dL_isDispatched_69 : decode cL_isDispatched 69 = .ok (.bipush 39, 2) := by decide +kernel
theorem dL_isDispatched_71 : decode cL_isDispatched 71 = .ok (.iload_n 1, 1) := by decide +kernel
theorem dL_isDispatched_72 : decode cL_isDispatched 72 = .ok (.bipush 115, 2) := by decide +kernel
theorem dL_isDispatched_74 : decode cL_isDispatched 74 = .ok (.invokestatic 179, 3) := by decide +kernel
theorem dL_isDispatched_77 : decode cL_isDispatched 77 = .ok (.iadd, 1) := by decide +kernel
theorem dL_isDispatched_78 : decode cL_isDispatched 78 = .ok (.aload_n 0, 1) := by decide +kernel
theorem dL_isDispatched_79 : decode cL_isDispatched 79 = .ok (.bipush 39, 2) := by decide +kernel
theorem dL_isDispatched_81 : decode cL_isDispatched 81 = .ok (.iload_n 1, 1) := by decide +kernel
theorem dL_isDispatched_82 : decode cL_isDispatched 82 = .ok (.bipush 114, 2) := by decide +kernel
theorem dL_isDispatched_84 : decode cL_isDispatched 84 = .ok (.invokestatic 179, 3) := by decide +kernel
theorem dL_isDispatched_87 : decode cL_isDispatched 87 = .ok (.iadd, 1) := by decide +kernel
theorem dL_isDispatched_88 : decode cL_isDispatched 88 = .ok (.istore 6, 2) := by decide +kernel
theorem dL_isDispatched_90 : decode cL_isDispatched 90 = .ok (.iload_n 2, 1) := by decide +kernel
theorem dL_isDispatched_91 : decode cL_isDispatched 91 = .ok (.bipush 46, 2) := by decide +kernel
theorem dL_isDispatched_93 : decode cL_isDispatched 93 = .ok (.if_icmp .eq 36, 3) := by decide +kernel
theorem dL_isDispatched_96 : decode cL_isDispatched 96 = .ok (.iload 5, 2) := by decide +kernel
theorem dL_isDispatched_98 : decode cL_isDispatched 98 = .ok (.sipush (-2004), 3) := by decide +kernel
theorem dL_isDispatched_101 : decode cL_isDispatched 101 = .ok (.if_icmp .ne 26, 3) := by decide +kernel
theorem dL_isDispatched_104 : decode cL_isDispatched 104 = .ok (.aload_n 0, 1) := by decide +kernel
theorem dL_isDispatched_105 : decode cL_isDispatched 105 = .ok (.bipush 43, 2) := by decide +kernel
theorem dL_isDispatched_107 : decode cL_isDispatched 107 = .ok (.iload_n 1, 1) := by decide +kernel
theorem dL_isDispatched_108 : decode cL_isDispatched 108 = .ok (.iconst 0, 1) := by decide +kernel
theorem dL_isDispatched_109 : decode cL_isDispatched 109 = .ok (.invokestatic 179, 3) := by decide +kernel
theorem dL_isDispatched_112 : decode cL_isDispatched 112 = .ok (.iload_n 3, 1) := by decide +kernel
theorem dL_isDispatched_113 : decode cL_isDispatched 113 = .ok (.if_icmp .ne 14, 3) := by decide +kernel
theorem dL_isDispatched_116 : decode cL_isDispatched 116 = .ok (.iload 6, 2) := by decide +kernel
theorem dL_isDispatched_118 : decode cL_isDispatched 118 = .ok (.iload 4, 2) := by decide +kernel
theorem dL_isDispatched_120 : decode cL_isDispatched 120 = .ok (.if_icmp .ne 7, 3) := by decide +kernel
theorem dL_isDispatched_123 : decode cL_isDispatched 123 = .ok (.iconst 1, 1) := by decide +kernel
theorem dL_isDispatched_124 : decode cL_isDispatched 124 = .ok (.goto 4, 3) := by decide +kernel
theorem dL_isDispatched_127 : decode cL_isDispatched 127 = .ok (.iconst 0, 1) := by decide +kernel
theorem dL_isDispatched_128 : decode cL_isDispatched 128 = .ok (.ireturn, 1) := by decide +kernel
theorem dL_isDispatched_129 : decode cL_isDispatched 129 = .ok (.iload 5, 2) := by decide +kernel
theorem dL_isDispatched_131 : decode cL_isDispatched 131 = .ok (.ifCond .lt 44, 3) := by decide +kernel
theorem dL_isDispatched_134 : decode cL_isDispatched 134 = .ok (.iload 6, 2) := by decide +kernel
theorem dL_isDispatched_136 : decode cL_isDispatched 136 = .ok (.iload 4, 2) := by decide +kernel
theorem dL_isDispatched_138 : decode cL_isDispatched 138 = .ok (.iload 5, 2) := by decide +kernel
theorem dL_isDispatched_140 : decode cL_isDispatched 140 = .ok (.isub, 1) := by decide +kernel
theorem dL_isDispatched_141 : decode cL_isDispatched 141 = .ok (.if_icmp .ne 34, 3) := by decide +kernel
theorem dL_isDispatched_144 : decode cL_isDispatched 144 = .ok (.aload_n 0, 1) := by decide +kernel
theorem dL_isDispatched_145 : decode cL_isDispatched 145 = .ok (.bipush 43, 2) := by decide +kernel
theorem dL_isDispatched_147 : decode cL_isDispatched 147 = .ok (.iload_n 1, 1) := by decide +kernel
theorem dL_isDispatched_148 : decode cL_isDispatched 148 = .ok (.iconst 0, 1) := by decide +kernel
theorem dL_isDispatched_149 : decode cL_isDispatched 149 = .ok (.invokestatic 179, 3) := by decide +kernel
theorem dL_isDispatched_152 : decode cL_isDispatched 152 = .ok (.iload_n 3, 1) := by decide +kernel
theorem dL_isDispatched_153 : decode cL_isDispatched 153 = .ok (.iconst 1, 1) := by decide +kernel
theorem dL_isDispatched_154 : decode cL_isDispatched 154 = .ok (.iadd, 1) := by decide +kernel
theorem dL_isDispatched_155 : decode cL_isDispatched 155 = .ok (.if_icmp .ne 20, 3) := by decide +kernel
theorem dL_isDispatched_158 : decode cL_isDispatched 158 = .ok (.aload_n 0, 1) := by decide +kernel
theorem dL_isDispatched_159 : decode cL_isDispatched 159 = .ok (.bipush 30, 2) := by decide +kernel
theorem dL_isDispatched_161 : decode cL_isDispatched 161 = .ok (.iload_n 1, 1) := by decide +kernel
theorem dL_isDispatched_162 : decode cL_isDispatched 162 = .ok (.iconst 0, 1) := by decide +kernel
theorem dL_isDispatched_163 : decode cL_isDispatched 163 = .ok (.invokestatic 179, 3) := by decide +kernel
theorem dL_isDispatched_166 : decode cL_isDispatched 166 = .ok (.bipush 110, 2) := by decide +kernel
theorem dL_isDispatched_168 : decode cL_isDispatched 168 = .ok (.if_icmp .ne 7, 3) := by decide +kernel
theorem dL_isDispatched_171 : decode cL_isDispatched 171 = .ok (.iconst 1, 1) := by decide +kernel
theorem dL_isDispatched_172 : decode cL_isDispatched 172 = .ok (.goto 4, 3) := by decide +kernel
theorem dL_isDispatched_175 : decode cL_isDispatched 175 = .ok (.iconst 0, 1) := by decide +kernel
theorem dL_isDispatched_176 : decode cL_isDispatched 176 = .ok (.ireturn, 1) := by decide +kernel
theorem dL_law_0 : decode cL_law 0 = .ok (.new 16, 3) := by decide +kernel
theorem dL_law_3 : decode cL_law 3 = .ok (.dup, 1) := by decide +kernel
theorem dL_law_4 : decode cL_law 4 = .ok (.invokespecial 197, 3) := by decide +kernel
theorem dL_law_7 : decode cL_law 7 = .ok (.astore_n 1, 1) := by decide +kernel
theorem dL_law_8 : decode cL_law 8 = .ok (.aload_n 1, 1) := by decide +kernel
theorem dL_law_9 : decode cL_law 9 = .ok (.aload_n 0, 1) := by decide +kernel
theorem dL_law_10 : decode cL_law 10 = .ok (.invokestatic 198, 3) := by decide +kernel
theorem dL_law_13 : decode cL_law 13 = .ok (.aload_n 1, 1) := by decide +kernel
theorem dL_law_14 : decode cL_law 14 = .ok (.invokevirtual 186, 3) := by decide +kernel
theorem dL_law_17 : decode cL_law 17 = .ok (.lstore_n 2, 1) := by decide +kernel
theorem dL_law_18 : decode cL_law 18 = .ok (.lconst 0, 1) := by decide +kernel
theorem dL_law_19 : decode cL_law 19 = .ok (.lstore 4, 2) := by decide +kernel
theorem dL_law_21 : decode cL_law 21 = .ok (.aload_n 1, 1) := by decide +kernel
theorem dL_law_22 : decode cL_law 22 = .ok (.iconst 0, 1) := by decide +kernel
theorem dL_law_23 : decode cL_law 23 = .ok (.invokestatic 202, 3) := by decide +kernel
theorem dL_law_26 : decode cL_law 26 = .ok (.ifCond .eq 25, 3) := by decide +kernel
theorem dL_law_29 : decode cL_law 29 = .ok (.aload_n 1, 1) := by decide +kernel
theorem dL_law_30 : decode cL_law 30 = .ok (.iconst 1, 1) := by decide +kernel
theorem dL_law_31 : decode cL_law 31 = .ok (.invokestatic 202, 3) := by decide +kernel
theorem dL_law_34 : decode cL_law 34 = .ok (.ifCond .eq 17, 3) := by decide +kernel
theorem dL_law_37 : decode cL_law 37 = .ok (.aload_n 1, 1) := by decide +kernel
theorem dL_law_38 : decode cL_law 38 = .ok (.lload_n 2, 1) := by decide +kernel
theorem dL_law_39 : decode cL_law 39 = .ok (.lload 4, 2) := by decide +kernel
theorem dL_law_41 : decode cL_law 41 = .ok (.invokestatic 206, 3) := by decide +kernel
theorem dL_law_44 : decode cL_law 44 = .ok (.ifCond .eq 7, 3) := by decide +kernel
theorem dL_law_47 : decode cL_law 47 = .ok (.iconst 1, 1) := by decide +kernel
theorem dL_law_48 : decode cL_law 48 = .ok (.goto 4, 3) := by decide +kernel
theorem dL_law_51 : decode cL_law 51 = .ok (.iconst 0, 1) := by decide +kernel
theorem dL_law_52 : decode cL_law 52 = .ok (.istore 6, 2) := by decide +kernel
theorem dL_law_54 : decode cL_law 54 = .ok (.iconst 0, 1) := by decide +kernel
theorem dL_law_55 : decode cL_law 55 = .ok (.istore 7, 2) := by decide +kernel
theorem dL_law_57 : decode cL_law 57 = .ok (.iload 7, 2) := by decide +kernel
theorem dL_law_59 : decode cL_law 59 = .ok (.bipush 36, 2) := by decide +kernel
theorem dL_law_61 : decode cL_law 61 = .ok (.if_icmp .ge 887, 3) := by decide +kernel
theorem dL_law_64 : decode cL_law 64 = .ok (.iload 6, 2) := by decide +kernel
theorem dL_law_66 : decode cL_law 66 = .ok (.ifCond .eq 882, 3) := by decide +kernel
theorem dL_law_69 : decode cL_law 69 = .ok (.sipush 190, 3) := by decide +kernel
theorem dL_law_72 : decode cL_law 72 = .ok (.bipush 6, 2) := by decide +kernel
theorem dL_law_74 : decode cL_law 74 = .ok (.iload 7, 2) := by decide +kernel
theorem dL_law_76 : decode cL_law 76 = .ok (.imul, 1) := by decide +kernel
theorem dL_law_77 : decode cL_law 77 = .ok (.iadd, 1) := by decide +kernel
theorem dL_law_78 : decode cL_law 78 = .ok (.istore 8, 2) := by decide +kernel
theorem dL_law_80 : decode cL_law 80 = .ok (.aload_n 0, 1) := by decide +kernel
theorem dL_law_81 : decode cL_law 81 = .ok (.iload 8, 2) := by decide +kernel
theorem dL_law_83 : decode cL_law 83 = .ok (.iconst 1, 1) := by decide +kernel
theorem dL_law_84 : decode cL_law 84 = .ok (.iadd, 1) := by decide +kernel
theorem dL_law_85 : decode cL_law 85 = .ok (.iconst 2, 1) := by decide +kernel
theorem dL_law_86 : decode cL_law 86 = .ok (.invokestatic 163, 3) := by decide +kernel
theorem dL_law_89 : decode cL_law 89 = .ok (.istore 9, 2) := by decide +kernel
theorem dL_law_91 : decode cL_law 91 = .ok (.aload_n 0, 1) := by decide +kernel
theorem dL_law_92 : decode cL_law 92 = .ok (.iload 8, 2) := by decide +kernel
theorem dL_law_94 : decode cL_law 94 = .ok (.iconst 2, 1) := by decide +kernel
theorem dL_law_95 : decode cL_law 95 = .ok (.iadd, 1) := by decide +kernel
theorem dL_law_96 : decode cL_law 96 = .ok (.bipush 14, 2) := by decide +kernel
theorem dL_law_98 : decode cL_law 98 = .ok (.invokestatic 163, 3) := by decide +kernel
theorem dL_law_101 : decode cL_law 101 = .ok (.istore 10, 2) := by decide +kernel
theorem dL_law_103 : decode cL_law 103 = .ok (.aload_n 0, 1) := by decide +kernel
theorem dL_law_104 : decode cL_law 104 = .ok (.iload 8, 2) := by decide +kernel
theorem dL_law_106 : decode cL_law 106 = .ok (.bipush 12, 2) := by decide +kernel
theorem dL_law_108 : decode cL_law 108 = .ok (.invokestatic 163, 3) := by decide +kernel
theorem dL_law_111 : decode cL_law 111 = .ok (.tableswitch 612 0 10 #[57, 57, 68, 68, 115, 115, 230, 326, 400, 495, 534], 57) := by decide +kernel
theorem dL_law_168 : decode cL_law 168 = .ok (.aload_n 1, 1) := by decide +kernel
theorem dL_law_169 : decode cL_law 169 = .ok (.iload 9, 2) := by decide +kernel
theorem dL_law_171 : decode cL_law 171 = .ok (.invokestatic 210, 3) := by decide +kernel
theorem dL_law_174 : decode cL_law 174 = .ok (.istore 6, 2) := by decide +kernel
theorem dL_law_176 : decode cL_law 176 = .ok (.goto 728, 3) := by decide +kernel
theorem dL_law_179 : decode cL_law 179 = .ok (.aload_n 1, 1) := by decide +kernel
theorem dL_law_180 : decode cL_law 180 = .ok (.invokevirtual 213, 3) := by decide +kernel
theorem dL_law_183 : decode cL_law 183 = .ok (.istore 11, 2) := by decide +kernel
theorem dL_law_185 : decode cL_law 185 = .ok (.iconst 1, 1) := by decide +kernel
theorem dL_law_186 : decode cL_law 186 = .ok (.aload_n 0, 1) := by decide +kernel
theorem dL_law_187 : decode cL_law 187 = .ok (.iload 8, 2) := by decide +kernel
theorem dL_law_189 : decode cL_law 189 = .ok (.iconst 2, 1) := by decide +kernel
theorem dL_law_190 : decode cL_law 190 = .ok (.iadd, 1) := by decide +kernel
theorem dL_law_191 : decode cL_law 191 = .ok (.bipush 20, 2) := by decide +kernel
theorem dL_law_193 : decode cL_law 193 = .ok (.invokestatic 163, 3) := by decide +kernel
theorem dL_law_196 : decode cL_law 196 = .ok (.iadd, 1) := by decide +kernel
theorem dL_law_197 : decode cL_law 197 = .ok (.istore 12, 2) := by decide +kernel
theorem dL_law_199 : decode cL_law 199 = .ok (.aload_n 1, 1) := by decide +kernel
theorem dL_law_200 : decode cL_law 200 = .ok (.bipush 15, 2) := by decide +kernel
theorem dL_law_202 : decode cL_law 202 = .ok (.iload 12, 2) := by decide +kernel
theorem dL_law_204 : decode cL_law 204 = .ok (.iconst 0, 1) := by decide +kernel
theorem dL_law_205 : decode cL_law 205 = .ok (.invokestatic 179, 3) := by decide +kernel
theorem dL_law_208 : decode cL_law 208 = .ok (.iload 11, 2) := by decide +kernel
theorem dL_law_210 : decode cL_law 210 = .ok (.iload 12, 2) := by decide +kernel
theorem dL_law_212 : decode cL_law 212 = .ok (.iadd, 1) := by decide +kernel
theorem dL_law_213 : decode cL_law 213 = .ok (.if_icmp .ne 7, 3) := by decide +kernel
theorem dL_law_216 : decode cL_law 216 = .ok (.iconst 1, 1) := by decide +kernel
theorem dL_law_217 : decode cL_law 217 = .ok (.goto 4, 3) := by decide +kernel
theorem dL_law_220 : decode cL_law 220 = .ok (.iconst 0, 1) := by decide +kernel
theorem dL_law_221 : decode cL_law 221 = .ok (.istore 6, 2) := by decide +kernel
theorem dL_law_223 : decode cL_law 223 = .ok (.goto 681, 3) := by decide +kernel
theorem dL_law_226 : decode cL_law 226 = .ok (.aload_n 1, 1) := by decide +kernel
theorem dL_law_227 : decode cL_law 227 = .ok (.bipush 41, 2) := by decide +kernel
theorem dL_law_229 : decode cL_law 229 = .ok (.iload 10, 2) := by decide +kernel
theorem dL_law_231 : decode cL_law 231 = .ok (.bipush 109, 2) := by decide +kernel
theorem dL_law_233 : decode cL_law 233 = .ok (.invokestatic 179, 3) := by decide +kernel
theorem dL_law_236 : decode cL_law 236 = .ok (.istore 13, 2) := by decide +kernel
theorem dL_law_238 : decode cL_law 238 = .ok (.aload_n 1, 1) := by decide +kernel
theorem dL_law_239 : decode cL_law 239 = .ok (.bipush 18, 2) := by decide +kernel
theorem dL_law_241 : decode cL_law 241 = .ok (.iload 10, 2) := by decide +kernel
theorem dL_law_243 : decode cL_law 243 = .ok (.iload 9, 2) := by decide +kernel
theorem dL_law_245 : decode cL_law 245 = .ok (.ldc 216, 2) := by decide +kernel
theorem dL_law_247 : decode cL_law 247 = .ok (.aload_n 0, 1) := by decide +kernel
theorem dL_law_248 : decode cL_law 248 = .ok (.iload 8, 2) := by decide +kernel
theorem dL_law_250 : decode cL_law 250 = .ok (.iconst 3, 1) := by decide +kernel
theorem dL_law_251 : decode cL_law 251 = .ok (.iadd, 1) := by decide +kernel
theorem dL_law_252 : decode cL_law 252 = .ok (.iconst 3, 1) := by decide +kernel
theorem dL_law_253 : decode cL_law 253 = .ok (.invokestatic 163, 3) := by decide +kernel
theorem dL_law_256 : decode cL_law 256 = .ok (.invokevirtual 218, 3) := by decide +kernel
theorem dL_law_259 : decode cL_law 259 = .ok (.iconst 0, 1) := by decide +kernel
theorem dL_law_260 : decode cL_law 260 = .ok (.iconst 0, 1) := by decide +kernel
theorem dL_law_261 : decode cL_law 261 = .ok (.invokestatic 160, 3) := by decide +kernel
theorem dL_law_264 : decode cL_law 264 = .ok (.istore 14, 2) := by decide +kernel
theorem dL_law_266 : decode cL_law 266 = .ok (.iload 14, 2) := by decide +kernel
theorem dL_law_268 : decode cL_law 268 = .ok (.sipush (-2004), 3) := by decide +kernel
theorem dL_law_271 : decode cL_law 271 = .ok (.if_icmp .ne 26, 3) := by decide +kernel
theorem dL_law_274 : decode cL_law 274 = .ok (.aload_n 1, 1) := by decide +kernel
theorem dL_law_275 : decode cL_law 275 = .ok (.bipush 41, 2) := by decide +kernel
theorem dL_law_277 : decode cL_law 277 = .ok (.iload 10, 2) := by decide +kernel
theorem dL_law_279 : decode cL_law 279 = .ok (.bipush 109, 2) := by decide +kernel
theorem dL_law_281 : decode cL_law 281 = .ok (.invokestatic 179, 3) := by decide +kernel
theorem dL_law_284 : decode cL_law 284 = .ok (.iload 13, 2) := by decide +kernel
theorem dL_law_286 : decode cL_law 286 = .ok (.if_icmp .ne 7, 3) := by decide +kernel
theorem dL_law_289 : decode cL_law 289 = .ok (.iconst 1, 1) := by decide +kernel
theorem dL_law_290 : decode cL_law 290 = .ok (.goto 46, 3) := by decide +kernel
theorem dL_law_293 : decode cL_law 293 = .ok (.iconst 0, 1) := by decide +kernel
theorem dL_law_294 : decode cL_law 294 = .ok (.goto 42, 3) := by decide +kernel
theorem dL_law_297 : decode cL_law 297 = .ok (.iload 14, 2) := by decide +kernel
theorem dL_law_299 : decode cL_law 299 = .ok (.ifCond .le 36, 3) := by decide +kernel
theorem dL_law_302 : decode cL_law 302 = .ok (.aload_n 1, 1) := by decide +kernel
theorem dL_law_303 : decode cL_law 303 = .ok (.bipush 40, 2) := by decide +kernel
theorem dL_law_305 : decode cL_law 305 = .ok (.iload 10, 2) := by decide +kernel
theorem dL_law_307 : decode cL_law 307 = .ok (.iconst 0, 1) := by decide +kernel
theorem dL_law_308 : decode cL_law 308 = .ok (.invokestatic 179, 3) := by decide +kernel
theorem dL_law_311 : decode cL_law 311 = .ok (.bipush 113, 2) := by decide +kernel
theorem dL_law_313 : decode cL_law 313 = .ok (.if_icmp .ne 22, 3) := by decide +kernel
theorem dL_law_316 : decode cL_law 316 = .ok (.aload_n 1, 1) := by decide +kernel
theorem dL_law_317 : decode cL_law 317 = .ok (.bipush 41, 2) := by decide +kernel
theorem dL_law_319 : decode cL_law 319 = .ok (.iload 10, 2) := by decide +kernel
theorem dL_law_321 : decode cL_law 321 = .ok (.bipush 109, 2) := by decide +kernel
theorem dL_law_323 : decode cL_law 323 = .ok (.invokestatic 179, 3) := by decide +kernel
theorem dL_law_326 : decode cL_law 326 = .ok (.iload 13, 2) := by decide +kernel
theorem dL_law_328 : decode cL_law 328 = .ok (.if_icmp .gt 7, 3) := by decide +kernel
theorem dL_law_331 : decode cL_law 331 = .ok (.iconst 1, 1) := by decide +kernel
theorem dL_law_332 : decode cL_law 332 = .ok (.goto 4, 3) := by decide +kernel
theorem dL_law_335 : decode cL_law 335 = .ok (.iconst 0, 1) := by decide +kernel
theorem dL_law_336 : decode cL_law 336 = .ok (.istore 6, 2) := by decide +kernel
theorem dL_law_338 : decode cL_law 338 = .ok (.goto 566, 3) := by decide +kernel
theorem dL_law_341 : decode cL_law 341 = .ok (.aload_n 1, 1) := by decide +kernel
theorem dL_law_342 : decode cL_law 342 = .ok (.bipush 41, 2) := by decide +kernel
theorem dL_law_344 : decode cL_law 344 = .ok (.iload 10, 2) := by decide +kernel
theorem dL_law_346 : decode cL_law 346 = .ok (.bipush 109, 2) := by decide +kernel
theorem dL_law_348 : decode cL_law 348 = .ok (.invokestatic 179, 3) := by decide +kernel
theorem dL_law_351 : decode cL_law 351 = .ok (.istore 15, 2) := by decide +kernel
theorem dL_law_353 : decode cL_law 353 = .ok (.aload_n 1, 1) := by decide +kernel
theorem dL_law_354 : decode cL_law 354 = .ok (.bipush 19, 2) := by decide +kernel
theorem dL_law_356 : decode cL_law 356 = .ok (.iload 10, 2) := by decide +kernel
theorem dL_law_358 : decode cL_law 358 = .ok (.iconst 0, 1) := by decide +kernel
theorem dL_law_359 : decode cL_law 359 = .ok (.invokestatic 179, 3) := by decide +kernel
theorem dL_law_362 : decode cL_law 362 = .ok (.istore 16, 2) := by decide +kernel
theorem dL_law_364 : decode cL_law 364 = .ok (.iload 16, 2) := by decide +kernel
theorem dL_law_366 : decode cL_law 366 = .ok (.sipush (-2004), 3) := by decide +kernel
theorem dL_law_369 : decode cL_law 369 = .ok (.if_icmp .ne 26, 3) := by decide +kernel
theorem dL_law_372 : decode cL_law 372 = .ok (.aload_n 1, 1) := by decide +kernel
theorem dL_law_373 : decode cL_law 373 = .ok (.bipush 41, 2) := by decide +kernel
theorem dL_law_375 : decode cL_law 375 = .ok (.iload 10, 2) := by decide +kernel
theorem dL_law_377 : decode cL_law 377 = .ok (.bipush 109, 2) := by decide +kernel
theorem dL_law_379 : decode cL_law 379 = .ok (.invokestatic 179, 3) := by decide +kernel
theorem dL_law_382 : decode cL_law 382 = .ok (.iload 15, 2) := by decide +kernel
theorem dL_law_384 : decode cL_law 384 = .ok (.if_icmp .ne 7, 3) := by decide +kernel
theorem dL_law_387 : decode cL_law 387 = .ok (.iconst 1, 1) := by decide +kernel
theorem dL_law_388 : decode cL_law 388 = .ok (.goto 44, 3) := by decide +kernel
theorem dL_law_391 : decode cL_law 391 = .ok (.iconst 0, 1) := by decide +kernel
theorem dL_law_392 : decode cL_law 392 = .ok (.goto 40, 3) := by decide +kernel
theorem dL_law_395 : decode cL_law 395 = .ok (.aload_n 1, 1) := by decide +kernel
theorem dL_law_396 : decode cL_law 396 = .ok (.bipush 41, 2) := by decide +kernel
theorem dL_law_398 : decode cL_law 398 = .ok (.iload 10, 2) := by decide +kernel
theorem dL_law_400 : decode cL_law 400 = .ok (.bipush 109, 2) := by decide +kernel
theorem dL_law_402 : decode cL_law 402 = .ok (.invokestatic 179, 3) := by decide +kernel
theorem dL_law_405 : decode cL_law 405 = .ok (.iload 15, 2) := by decide +kernel
theorem dL_law_407 : decode cL_law 407 = .ok (.iload 16, 2) := by decide +kernel
theorem dL_law_409 : decode cL_law 409 = .ok (.iadd, 1) := by decide +kernel
theorem dL_law_410 : decode cL_law 410 = .ok (.if_icmp .ne 21, 3) := by decide +kernel
theorem dL_law_413 : decode cL_law 413 = .ok (.aload_n 1, 1) := by decide +kernel
theorem dL_law_414 : decode cL_law 414 = .ok (.bipush 40, 2) := by decide +kernel
theorem dL_law_416 : decode cL_law 416 = .ok (.iload 10, 2) := by decide +kernel
theorem dL_law_418 : decode cL_law 418 = .ok (.iconst 0, 1) := by decide +kernel
theorem dL_law_419 : decode cL_law 419 = .ok (.invokestatic 179, 3) := by decide +kernel
theorem dL_law_422 : decode cL_law 422 = .ok (.bipush 112, 2) := by decide +kernel
theorem dL_law_424 : decode cL_law 424 = .ok (.if_icmp .ne 7, 3) := by decide +kernel
theorem dL_law_427 : decode cL_law 427 = .ok (.iconst 1, 1) := by decide +kernel
theorem dL_law_428 : decode cL_law 428 = .ok (.goto 4, 3) := by decide +kernel
theorem dL_law_431 : decode cL_law 431 = .ok (.iconst 0, 1) := by decide +kernel
theorem dL_law_432 : decode cL_law 432 = .ok (.istore 6, 2) := by decide +kernel
theorem dL_law_434 : decode cL_law 434 = .ok (.goto 470, 3) := by decide +kernel
theorem dL_law_437 : decode cL_law 437 = .ok (.aload_n 1, 1) := by decide +kernel
theorem dL_law_438 : decode cL_law 438 = .ok (.bipush 20, 2) := by decide +kernel
theorem dL_law_440 : decode cL_law 440 = .ok (.iload 10, 2) := by decide +kernel
theorem dL_law_442 : decode cL_law 442 = .ok (.iload 9, 2) := by decide +kernel
theorem dL_law_444 : decode cL_law 444 = .ok (.invokestatic 179, 3) := by decide +kernel
theorem dL_law_447 : decode cL_law 447 = .ok (.istore 17, 2) := by decide +kernel
theorem dL_law_449 : decode cL_law 449 = .ok (.iload 17, 2) := by decide +kernel
theorem dL_law_451 : decode cL_law 451 = .ok (.sipush (-2004), 3) := by decide +kernel
theorem dL_law_454 : decode cL_law 454 = .ok (.if_icmp .ne 25, 3) := by decide +kernel
theorem dL_law_457 : decode cL_law 457 = .ok (.aload_n 1, 1) := by decide +kernel
theorem dL_law_458 : decode cL_law 458 = .ok (.bipush 40, 2) := by decide +kernel
theorem dL_law_460 : decode cL_law 460 = .ok (.iload 10, 2) := by decide +kernel
theorem dL_law_462 : decode cL_law 462 = .ok (.iconst 0, 1) := by decide +kernel
theorem dL_law_463 : decode cL_law 463 = .ok (.invokestatic 179, 3) := by decide +kernel
theorem dL_law_466 : decode cL_law 466 = .ok (.bipush 111, 2) := by decide +kernel
theorem dL_law_468 : decode cL_law 468 = .ok (.if_icmp .ne 7, 3) := by decide +kernel
theorem dL_law_471 : decode cL_law 471 = .ok (.iconst 1, 1) := by decide +kernel
theorem dL_law_472 : decode cL_law 472 = .ok (.goto 34, 3) := by decide +kernel
theorem dL_law_475 : decode cL_law 475 = .ok (.iconst 0, 1) := by decide +kernel
theorem dL_law_476 : decode cL_law 476 = .ok (.goto 30, 3) := by decide +kernel
theorem dL_law_479 : decode cL_law 479 = .ok (.iload 17, 2) := by decide +kernel
theorem dL_law_481 : decode cL_law 481 = .ok (.aload_n 1, 1) := by decide +kernel
theorem dL_law_482 : decode cL_law 482 = .ok (.invokevirtual 213, 3) := by decide +kernel
theorem dL_law_485 : decode cL_law 485 = .ok (.iconst 5, 1) := by decide +kernel
theorem dL_law_486 : decode cL_law 486 = .ok (.iadd, 1) := by decide +kernel
theorem dL_law_487 : decode cL_law 487 = .ok (.aload_n 1, 1) := by decide +kernel
theorem dL_law_488 : decode cL_law 488 = .ok (.bipush 39, 2) := by decide +kernel
theorem dL_law_490 : decode cL_law 490 = .ok (.iload 9, 2) := by decide +kernel
theorem dL_law_492 : decode cL_law 492 = .ok (.bipush 108, 2) := by decide +kernel
theorem dL_law_494 : decode cL_law 494 = .ok (.invokestatic 179, 3) := by decide +kernel
theorem dL_law_497 : decode cL_law 497 = .ok (.iadd, 1) := by decide +kernel
theorem dL_law_498 : decode cL_law 498 = .ok (.if_icmp .ne 7, 3) := by decide +kernel
theorem dL_law_501 : decode cL_law 501 = .ok (.iconst 1, 1) := by decide +kernel
theorem dL_law_502 : decode cL_law 502 = .ok (.goto 4, 3) := by decide +kernel
theorem dL_law_505 : decode cL_law 505 = .ok (.iconst 0, 1) := by decide +kernel
theorem dL_law_506 : decode cL_law 506 = .ok (.istore 6, 2) := by decide +kernel
theorem dL_law_508 : decode cL_law 508 = .ok (.goto 396, 3) := by decide +kernel
theorem dL_law_511 : decode cL_law 511 = .ok (.aload_n 0, 1) := by decide +kernel
theorem dL_law_512 : decode cL_law 512 = .ok (.iload 8, 2) := by decide +kernel
theorem dL_law_514 : decode cL_law 514 = .ok (.iconst 3, 1) := by decide +kernel
theorem dL_law_515 : decode cL_law 515 = .ok (.iadd, 1) := by decide +kernel
theorem dL_law_516 : decode cL_law 516 = .ok (.iconst 4, 1) := by decide +kernel
theorem dL_law_517 : decode cL_law 517 = .ok (.invokestatic 163, 3) := by decide +kernel
theorem dL_law_520 : decode cL_law 520 = .ok (.ifCond .ne 73, 3) := by decide +kernel
theorem dL_law_523 : decode cL_law 523 = .ok (.aload_n 1, 1) := by decide +kernel
theorem dL_law_524 : decode cL_law 524 = .ok (.bipush 17, 2) := by decide +kernel
theorem dL_law_526 : decode cL_law 526 = .ok (.iload 10, 2) := by decide +kernel
theorem dL_law_528 : decode cL_law 528 = .ok (.iconst 0, 1) := by decide +kernel
theorem dL_law_529 : decode cL_law 529 = .ok (.invokestatic 179, 3) := by decide +kernel
theorem dL_law_532 : decode cL_law 532 = .ok (.istore 18, 2) := by decide +kernel
theorem dL_law_534 : decode cL_law 534 = .ok (.lload 4, 2) := by decide +kernel
theorem dL_law_536 : decode cL_law 536 = .ok (.iconst 0, 1) := by decide +kernel
theorem dL_law_537 : decode cL_law 537 = .ok (.iload 18, 2) := by decide +kernel
theorem dL_law_539 : decode cL_law 539 = .ok (.invokestatic 176, 3) := by decide +kernel
theorem dL_law_542 : decode cL_law 542 = .ok (.i2l, 1) := by decide +kernel
theorem dL_law_543 : decode cL_law 543 = .ok (.ladd, 1) := by decide +kernel
theorem dL_law_544 : decode cL_law 544 = .ok (.lstore 4, 2) := by decide +kernel
theorem dL_law_546 : decode cL_law 546 = .ok (.iload 18, 2) := by decide +kernel
theorem dL_law_548 : decode cL_law 548 = .ok (.sipush (-2004), 3) := by decide +kernel
theorem dL_law_551 : decode cL_law 551 = .ok (.if_icmp .eq 32, 3) := by decide +kernel
theorem dL_law_554 : decode cL_law 554 = .ok (.aload_n 1, 1) := by decide +kernel
theorem dL_law_555 : decode cL_law 555 = .ok (.bipush 40, 2) := by decide +kernel
theorem dL_law_557 : decode cL_law 557 = .ok (.iload 10, 2) := by decide +kernel
theorem dL_law_559 : decode cL_law 559 = .ok (.iconst 0, 1) := by decide +kernel
theorem dL_law_560 : decode cL_law 560 = .ok (.invokestatic 179, 3) := by decide +kernel
theorem dL_law_563 : decode cL_law 563 = .ok (.bipush 111, 2) := by decide +kernel
theorem dL_law_565 : decode cL_law 565 = .ok (.if_icmp .ne 22, 3) := by decide +kernel
theorem dL_law_568 : decode cL_law 568 = .ok (.aload_n 1, 1) := by decide +kernel
theorem dL_law_569 : decode cL_law 569 = .ok (.bipush 21, 2) := by decide +kernel
theorem dL_law_571 : decode cL_law 571 = .ok (.iload 10, 2) := by decide +kernel
theorem dL_law_573 : decode cL_law 573 = .ok (.iconst 0, 1) := by decide +kernel
theorem dL_law_574 : decode cL_law 574 = .ok (.invokestatic 179, 3) := by decide +kernel
theorem dL_law_577 : decode cL_law 577 = .ok (.sipush (-2004), 3) := by decide +kernel
theorem dL_law_580 : decode cL_law 580 = .ok (.if_icmp .ne 7, 3) := by decide +kernel
theorem dL_law_583 : decode cL_law 583 = .ok (.iconst 1, 1) := by decide +kernel
theorem dL_law_584 : decode cL_law 584 = .ok (.goto 4, 3) := by decide +kernel
theorem dL_law_587 : decode cL_law 587 = .ok (.iconst 0, 1) := by decide +kernel
theorem dL_law_588 : decode cL_law 588 = .ok (.istore 6, 2) := by decide +kernel
theorem dL_law_590 : decode cL_law 590 = .ok (.goto 314, 3) := by decide +kernel
theorem dL_law_593 : decode cL_law 593 = .ok (.aload_n 1, 1) := by decide +kernel
theorem dL_law_594 : decode cL_law 594 = .ok (.bipush 21, 2) := by decide +kernel
theorem dL_law_596 : decode cL_law 596 = .ok (.iload 10, 2) := by decide +kernel
theorem dL_law_598 : decode cL_law 598 = .ok (.iconst 0, 1) := by decide +kernel
theorem dL_law_599 : decode cL_law 599 = .ok (.invokestatic 179, 3) := by decide +kernel
theorem dL_law_602 : decode cL_law 602 = .ok (.pop, 1) := by decide +kernel
theorem dL_law_603 : decode cL_law 603 = .ok (.goto 301, 3) := by decide +kernel
theorem dL_law_606 : decode cL_law 606 = .ok (.aload_n 1, 1) := by decide +kernel
theorem dL_law_607 : decode cL_law 607 = .ok (.bipush 11, 2) := by decide +kernel
theorem dL_law_609 : decode cL_law 609 = .ok (.aload_n 0, 1) := by decide +kernel
theorem dL_law_610 : decode cL_law 610 = .ok (.iload 8, 2) := by decide +kernel
theorem dL_law_612 : decode cL_law 612 = .ok (.iconst 2, 1) := by decide +kernel
theorem dL_law_613 : decode cL_law 613 = .ok (.iadd, 1) := by decide +kernel
theorem dL_law_614 : decode cL_law 614 = .ok (.bipush 41, 2) := by decide +kernel
theorem dL_law_616 : decode cL_law 616 = .ok (.invokestatic 163, 3) := by decide +kernel
theorem dL_law_619 : decode cL_law 619 = .ok (.iconst 0, 1) := by decide +kernel
theorem dL_law_620 : decode cL_law 620 = .ok (.invokestatic 179, 3) := by decide +kernel
theorem dL_law_623 : decode cL_law 623 = .ok (.pop, 1) := by decide +kernel
theorem dL_law_624 : decode cL_law 624 = .ok (.aload_n 1, 1) := by decide +kernel
theorem dL_law_625 : decode cL_law 625 = .ok (.bipush 12, 2) := by decide +kernel
theorem dL_law_627 : decode cL_law 627 = .ok (.aload_n 0, 1) := by decide +kernel
theorem dL_law_628 : decode cL_law 628 = .ok (.iload 8, 2) := by decide +kernel
theorem dL_law_630 : decode cL_law 630 = .ok (.iconst 3, 1) := by decide +kernel
theorem dL_law_631 : decode cL_law 631 = .ok (.iadd, 1) := by decide +kernel
theorem dL_law_632 : decode cL_law 632 = .ok (.bipush 100, 2) := by decide +kernel
theorem dL_law_634 : decode cL_law 634 = .ok (.invokestatic 163, 3) := by decide +kernel
theorem dL_law_637 : decode cL_law 637 = .ok (.iconst 0, 1) := by decide +kernel
theorem dL_law_638 : decode cL_law 638 = .ok (.invokestatic 179, 3) := by decide +kernel
theorem dL_law_641 : decode cL_law 641 = .ok (.pop, 1) := by decide +kernel
theorem dL_law_642 : decode cL_law 642 = .ok (.goto 262, 3) := by decide +kernel
theorem dL_law_645 : decode cL_law 645 = .ok (.aload_n 1, 1) := by decide +kernel
theorem dL_law_646 : decode cL_law 646 = .ok (.bipush 33, 2) := by decide +kernel
theorem dL_law_648 : decode cL_law 648 = .ok (.iload 9, 2) := by decide +kernel
theorem dL_law_650 : decode cL_law 650 = .ok (.iconst 1, 1) := by decide +kernel
theorem dL_law_651 : decode cL_law 651 = .ok (.invokestatic 179, 3) := by decide +kernel
theorem dL_law_654 : decode cL_law 654 = .ok (.istore 18, 2) := by decide +kernel
theorem dL_law_656 : decode cL_law 656 = .ok (.aload_n 1, 1) := by decide +kernel
theorem dL_law_657 : decode cL_law 657 = .ok (.bipush 9, 2) := by decide +kernel
theorem dL_law_659 : decode cL_law 659 = .ok (.iload 9, 2) := by decide +kernel
theorem dL_law_661 : decode cL_law 661 = .ok (.aload_n 0, 1) := by decide +kernel
theorem dL_law_662 : decode cL_law 662 = .ok (.iload 8, 2) := by decide +kernel
theorem dL_law_664 : decode cL_law 664 = .ok (.iconst 2, 1) := by decide +kernel
theorem dL_law_665 : decode cL_law 665 = .ok (.iadd, 1) := by decide +kernel
theorem dL_law_666 : decode cL_law 666 = .ok (.iconst 4, 1) := by decide +kernel
theorem dL_law_667 : decode cL_law 667 = .ok (.invokestatic 163, 3) := by decide +kernel
theorem dL_law_670 : decode cL_law 670 = .ok (.aload_n 0, 1) := by decide +kernel
theorem dL_law_671 : decode cL_law 671 = .ok (.iload 8, 2) := by decide +kernel
theorem dL_law_673 : decode cL_law 673 = .ok (.iconst 3, 1) := by decide +kernel
theorem dL_law_674 : decode cL_law 674 = .ok (.iadd, 1) := by decide +kernel
theorem dL_law_675 : decode cL_law 675 = .ok (.iconst 2, 1) := by decide +kernel
theorem dL_law_676 : decode cL_law 676 = .ok (.invokestatic 163, 3) := by decide +kernel
theorem dL_law_679 : decode cL_law 679 = .ok (.ldc 223, 2) := by decide +kernel
theorem dL_law_681 : decode cL_law 681 = .ok (.aload_n 0, 1) := by decide +kernel
theorem dL_law_682 : decode cL_law 682 = .ok (.iload 8, 2) := by decide +kernel
theorem dL_law_684 : decode cL_law 684 = .ok (.iconst 4, 1) := by decide +kernel
theorem dL_law_685 : decode cL_law 685 = .ok (.iadd, 1) := by decide +kernel
theorem dL_law_686 : decode cL_law 686 = .ok (.iconst 5, 1) := by decide +kernel
theorem dL_law_687 : decode cL_law 687 = .ok (.invokestatic 163, 3) := by decide +kernel
theorem dL_law_690 : decode cL_law 690 = .ok (.invokevirtual 218, 3) := by decide +kernel
theorem dL_law_693 : decode cL_law 693 = .ok (.iconst 0, 1) := by decide +kernel
theorem dL_law_694 : decode cL_law 694 = .ok (.invokestatic 160, 3) := by decide +kernel
theorem dL_law_697 : decode cL_law 697 = .ok (.pop, 1) := by decide +kernel
theorem dL_law_698 : decode cL_law 698 = .ok (.aload_n 1, 1) := by decide +kernel
theorem dL_law_699 : decode cL_law 699 = .ok (.bipush 10, 2) := by decide +kernel
theorem dL_law_701 : decode cL_law 701 = .ok (.iload 9, 2) := by decide +kernel
theorem dL_law_703 : decode cL_law 703 = .ok (.iconst 0, 1) := by decide +kernel
theorem dL_law_704 : decode cL_law 704 = .ok (.invokestatic 179, 3) := by decide +kernel
theorem dL_law_707 : decode cL_law 707 = .ok (.pop, 1) := by decide +kernel
theorem dL_law_708 : decode cL_law 708 = .ok (.iload 18, 2) := by decide +kernel
theorem dL_law_710 : decode cL_law 710 = .ok (.ifCond .lt 7, 3) := by decide +kernel
theorem dL_law_713 : decode cL_law 713 = .ok (.iconst 1, 1) := by decide +kernel
theorem dL_law_714 : decode cL_law 714 = .ok (.goto 4, 3) := by decide +kernel
theorem dL_law_717 : decode cL_law 717 = .ok (.iconst 0, 1) := by decide +kernel
theorem dL_law_718 : decode cL_law 718 = .ok (.istore 6, 2) := by decide +kernel
theorem dL_law_720 : decode cL_law 720 = .ok (.goto 184, 3) := by decide +kernel
theorem dL_law_723 : decode cL_law 723 = .ok (.aload_n 1, 1) := by decide +kernel
theorem dL_law_724 : decode cL_law 724 = .ok (.iconst 3, 1) := by decide +kernel
theorem dL_law_725 : decode cL_law 725 = .ok (.iload 9, 2) := by decide +kernel
theorem dL_law_727 : decode cL_law 727 = .ok (.iconst 1, 1) := by decide +kernel
theorem dL_law_728 : decode cL_law 728 = .ok (.aload_n 0, 1) := by decide +kernel
theorem dL_law_729 : decode cL_law 729 = .ok (.iload 8, 2) := by decide +kernel
theorem dL_law_731 : decode cL_law 731 = .ok (.iconst 2, 1) := by decide +kernel
theorem dL_law_732 : decode cL_law 732 = .ok (.iadd, 1) := by decide +kernel
theorem dL_law_733 : decode cL_law 733 = .ok (.bipush 8, 2) := by decide +kernel
theorem dL_law_735 : decode cL_law 735 = .ok (.invokestatic 163, 3) := by decide +kernel
theorem dL_law_738 : decode cL_law 738 = .ok (.iadd, 1) := by decide +kernel
theorem dL_law_739 : decode cL_law 739 = .ok (.invokestatic 179, 3) := by decide +kernel
theorem dL_law_742 : decode cL_law 742 = .ok (.istore 19, 2) := by decide +kernel
theorem dL_law_744 : decode cL_law 744 = .ok (.iconst 0, 1) := by decide +kernel
theorem dL_law_745 : decode cL_law 745 = .ok (.istore 20, 2) := by decide +kernel
theorem dL_law_747 : decode cL_law 747 = .ok (.aload_n 1, 1) := by decide +kernel
theorem dL_law_748 : decode cL_law 748 = .ok (.bipush 37, 2) := by decide +kernel
theorem dL_law_750 : decode cL_law 750 = .ok (.iload 9, 2) := by decide +kernel
theorem dL_law_752 : decode cL_law 752 = .ok (.iload 20, 2) := by decide +kernel
theorem dL_law_754 : decode cL_law 754 = .ok (.invokestatic 179, 3) := by decide +kernel
theorem dL_law_757 : decode cL_law 757 = .ok (.sipush (-2001), 3) := by decide +kernel
theorem dL_law_760 : decode cL_law 760 = .ok (.if_icmp .eq 106, 3) := by decide +kernel
theorem dL_law_763 : decode cL_law 763 = .ok (.aload_n 1, 1) := by decide +kernel
theorem dL_law_764 : decode cL_law 764 = .ok (.bipush 37, 2) := by decide +kernel
theorem dL_law_766 : decode cL_law 766 = .ok (.iload 9, 2) := by decide +kernel
theorem dL_law_768 : decode cL_law 768 = .ok (.iload 20, 2) := by decide +kernel
theorem dL_law_770 : decode cL_law 770 = .ok (.invokestatic 179, 3) := by decide +kernel
theorem dL_law_773 : decode cL_law 773 = .ok (.bipush 120, 2) := by decide +kernel
theorem dL_law_775 : decode cL_law 775 = .ok (.if_icmp .ne 7, 3) := by decide +kernel
theorem dL_law_778 : decode cL_law 778 = .ok (.iconst 1, 1) := by decide +kernel
theorem dL_law_779 : decode cL_law 779 = .ok (.goto 4, 3) := by decide +kernel
theorem dL_law_782 : decode cL_law 782 = .ok (.iconst 0, 1) := by decide +kernel
theorem dL_law_783 : decode cL_law 783 = .ok (.istore 21, 2) := by decide +kernel
theorem dL_law_785 : decode cL_law 785 = .ok (.aload_n 1, 1) := by decide +kernel
theorem dL_law_786 : decode cL_law 786 = .ok (.bipush 14, 2) := by decide +kernel
theorem dL_law_788 : decode cL_law 788 = .ok (.iload 9, 2) := by decide +kernel
theorem dL_law_790 : decode cL_law 790 = .ok (.iload 20, 2) := by decide +kernel
theorem dL_law_792 : decode cL_law 792 = .ok (.invokestatic 179, 3) := by decide +kernel
theorem dL_law_795 : decode cL_law 795 = .ok (.istore 22, 2) := by decide +kernel
theorem dL_law_797 : decode cL_law 797 = .ok (.iload 6, 2) := by decide +kernel
theorem dL_law_799 : decode cL_law 799 = .ok (.ifCond .eq 58, 3) := by decide +kernel
theorem dL_law_802 : decode cL_law 802 = .ok (.iload 21, 2) := by decide +kernel
theorem dL_law_804 : decode cL_law 804 = .ok (.ifCond .eq 41, 3) := by decide +kernel
theorem dL_law_807 : decode cL_law 807 = .ok (.iload 22, 2) := by decide +kernel
theorem dL_law_809 : decode cL_law 809 = .ok (.ifCond .lt 48, 3) := by decide +kernel
theorem dL_law_812 : decode cL_law 812 = .ok (.aload_n 1, 1) := by decide +kernel
theorem dL_law_813 : decode cL_law 813 = .ok (.bipush 37, 2) := by decide +kernel
theorem dL_law_815 : decode cL_law 815 = .ok (.iload 9, 2) := by decide +kernel
theorem dL_law_817 : decode cL_law 817 = .ok (.iload 20, 2) := by decide +kernel
theorem dL_law_819 : decode cL_law 819 = .ok (.invokestatic 179, 3) := by decide +kernel
theorem dL_law_822 : decode cL_law 822 = .ok (.bipush 115, 2) := by decide +kernel
theorem dL_law_824 : decode cL_law 824 = .ok (.if_icmp .ne 33, 3) := by decide +kernel
theorem dL_law_827 : decode cL_law 827 = .ok (.aload_n 1, 1) := by decide +kernel
theorem dL_law_828 : decode cL_law 828 = .ok (.bipush 35, 2) := by decide +kernel
theorem dL_law_830 : decode cL_law 830 = .ok (.iload 9, 2) := by decide +kernel
theorem dL_law_832 : decode cL_law 832 = .ok (.iload 20, 2) := by decide +kernel
theorem dL_law_834 : decode cL_law 834 = .ok (.invokestatic 179, 3) := by decide +kernel
theorem dL_law_837 : decode cL_law 837 = .ok (.iload 22, 2) := by decide +kernel
theorem dL_law_839 : decode cL_law 839 = .ok (.if_icmp .ne 18, 3) := by decide +kernel
theorem dL_law_842 : decode cL_law 842 = .ok (.goto 11, 3) := by decide +kernel
theorem dL_law_845 : decode cL_law 845 = .ok (.iload 22, 2) := by decide +kernel
theorem dL_law_847 : decode cL_law 847 = .ok (.sipush (-2004), 3) := by decide +kernel
theorem dL_law_850 : decode cL_law 850 = .ok (.if_icmp .ne 7, 3) := by decide +kernel
theorem dL_law_853 : decode cL_law 853 = .ok (.iconst 1, 1) := by decide +kernel
theorem dL_law_854 : decode cL_law 854 = .ok (.goto 4, 3) := by decide +kernel
theorem dL_law_857 : decode cL_law 857 = .ok (.iconst 0, 1) := by decide +kernel
theorem dL_law_858 : decode cL_law 858 = .ok (.istore 6, 2) := by decide +kernel
theorem dL_law_860 : decode cL_law 860 = .ok (.iinc 20 1, 3) := by decide +kernel
theorem dL_law_863 : decode cL_law 863 = .ok (.goto (-116), 3) := by decide +kernel
theorem dL_law_866 : decode cL_law 866 = .ok (.iload 6, 2) := by decide +kernel
theorem dL_law_868 : decode cL_law 868 = .ok (.ifCond .eq 33, 3) := by decide +kernel
theorem dL_law_871 : decode cL_law 871 = .ok (.iload 19, 2) := by decide +kernel
theorem dL_law_873 : decode cL_law 873 = .ok (.sipush (-2004), 3) := by decide +kernel
theorem dL_law_876 : decode cL_law 876 = .ok (.if_icmp .eq 21, 3) := by decide +kernel
theorem dL_law_879 : decode cL_law 879 = .ok (.iload 19, 2) := by decide +kernel
theorem dL_law_881 : decode cL_law 881 = .ok (.sipush (-2003), 3) := by decide +kernel
theorem dL_law_884 : decode cL_law 884 = .ok (.if_icmp .eq 13, 3) := by decide +kernel
theorem dL_law_887 : decode cL_law 887 = .ok (.iload 19, 2) := by decide +kernel
theorem dL_law_889 : decode cL_law 889 = .ok (.ifCond .gt 8, 3) := by decide +kernel
theorem dL_law_892 : decode cL_law 892 = .ok (.iload 19, 2) := by decide +kernel
theorem dL_law_894 : decode cL_law 894 = .ok (.ifCond .ne 7, 3) := by decide +kernel
theorem dL_law_897 : decode cL_law 897 = .ok (.iconst 1, 1) := by decide +kernel
theorem dL_law_898 : decode cL_law 898 = .ok (.goto 4, 3) := by decide +kernel
theorem dL_law_901 : decode cL_law 901 = .ok (.iconst 0, 1) := by decide +kernel
theorem dL_law_902 : decode cL_law 902 = .ok (.istore 6, 2) := by decide +kernel
theorem dL_law_904 : decode cL_law 904 = .ok (.iload 6, 2) := by decide +kernel
theorem dL_law_906 : decode cL_law 906 = .ok (.ifCond .eq 33, 3) := by decide +kernel
theorem dL_law_909 : decode cL_law 909 = .ok (.aload_n 1, 1) := by decide +kernel
theorem dL_law_910 : decode cL_law 910 = .ok (.iconst 0, 1) := by decide +kernel
theorem dL_law_911 : decode cL_law 911 = .ok (.invokestatic 202, 3) := by decide +kernel
theorem dL_law_914 : decode cL_law 914 = .ok (.ifCond .eq 25, 3) := by decide +kernel
theorem dL_law_917 : decode cL_law 917 = .ok (.aload_n 1, 1) := by decide +kernel
theorem dL_law_918 : decode cL_law 918 = .ok (.iconst 1, 1) := by decide +kernel
theorem dL_law_919 : decode cL_law 919 = .ok (.invokestatic 202, 3) := by decide +kernel
theorem dL_law_922 : decode cL_law 922 = .ok (.ifCond .eq 17, 3) := by decide +kernel
theorem dL_law_925 : decode cL_law 925 = .ok (.aload_n 1, 1) := by decide +kernel
theorem dL_law_926 : decode cL_law 926 = .ok (.lload_n 2, 1) := by decide +kernel
theorem dL_law_927 : decode cL_law 927 = .ok (.lload 4, 2) := by decide +kernel
theorem dL_law_929 : decode cL_law 929 = .ok (.invokestatic 206, 3) := by decide +kernel
theorem dL_law_932 : decode cL_law 932 = .ok (.ifCond .eq 7, 3) := by decide +kernel
theorem dL_law_935 : decode cL_law 935 = .ok (.iconst 1, 1) := by decide +kernel
theorem dL_law_936 : decode cL_law 936 = .ok (.goto 4, 3) := by decide +kernel
theorem dL_law_939 : decode cL_law 939 = .ok (.iconst 0, 1) := by decide +kernel
theorem dL_law_940 : decode cL_law 940 = .ok (.istore 6, 2) := by decide +kernel
theorem dL_law_942 : decode cL_law 942 = .ok (.iinc 7 1, 3) := by decide +kernel
theorem dL_law_945 : decode cL_law 945 = .ok (.goto (-888), 3) := by decide +kernel
theorem dL_law_948 : decode cL_law 948 = .ok (.iload 6, 2) := by decide +kernel
theorem dL_law_950 : decode cL_law 950 = .ok (.ireturn, 1) := by decide +kernel
abbrev vwCl : List vw_C := [(RJ0, TJ0, 2), (RJx00060, TJx00060, 6), (RX0, TX0, 6), (RX1, TX1, 11), (RX2, TX2, 2), (RX3, TX3, 15), (RX4, TX4, 3), (RX5, TX5, 9), (RX6, TX6, 13)]
/-! ===== END printed: names ===== -/
end
section
/-! The frame of this proof: a judgement GJ over an abstract heap (a function from addresses to cells), its rows out of the kit's rows, contracts gMet, calls. -/
section GFRAME
abbrev gH : Type := Nat → Option va_E
def gT : List Cond := lw_tbl.filter goodWord
theorem gT_in {w : Cond} (h : w ∈ lw_tbl) (g : goodWord w = true) : w ∈ gT := List.mem_filter.mpr ⟨h, g⟩
theorem gT_good {w : Cond} (h : w ∈ gT) : goodWord w = true := (List.mem_filter.mp h).2
theorem gT_at {w : Cond} (i : Nat) (h : lw_tbl[i]? = some w) (g : goodWord w = true) : w ∈ gT := gT_in (List.mem_of_getElem? h) g
def gWS (y : MethodName) (cc : ByteArray) (n : Nat) (ret : Option FieldType) : List Cond := Cond.code y cc n ret :: gT
theorem gWS_in {w : Cond} (h : w ∈ gT) : w ∈ gT ∧ ((w.onTables && w.keeps) = true ∨ ∃ ty, w = .arrayClass ty) := ⟨h, good_of_word (gT_good h)⟩
theorem gWS_good {y : MethodName} {cc : ByteArray} {n : Nat} {ret : Option FieldType} (h : Cond.code y cc n ret ∈ gT) : GoodIn gT (gWS y cc n ret) := by
  intro w hw
  rcases List.mem_cons.mp hw with rfl | hw
  · exact gWS_in h
  · exact gWS_in hw
/-- words that a warm machine keeps, though they aren't 'good' -/
def gSoft : Cond → Bool
  | .castable _ _ => true
  | .declares _ => true
  | .methodLinkNest _ _ _ _ => true
  | _ => false
def gB : List Cond := tables_1.filter gSoft
theorem gSoft_warm {w : Cond} {s U : State} (hg : gSoft w = true) (hW : s.WarmedH U.vm) (h : va_Nw w s) : va_Nw w U := by
  cases w <;> first | exact va_Nw.warmC hW h | exact va_Nw.warmD hW h | exact va_Nw.warmM hW h | (exact absurd hg (by simp [gSoft]))
/-- the texts of the exceptions: class, place, text -/
def gStrs : List (String × Nat × String) := tables_1.filterMap (fun w => match w with | .stringRef a k t => some (a, k, t) | _ => none)
/-- exceptions that a handler's class does not take -/
def gNcs : List (String × String) := [("java/lang/IllegalArgumentException", "java/lang/IndexOutOfBoundsException"), ("java/lang/UnsupportedOperationException", "java/lang/IndexOutOfBoundsException"), ("java/util/NoSuchElementException", "java/lang/IndexOutOfBoundsException"), ("java/lang/IllegalStateException", "java/lang/IndexOutOfBoundsException"), ("java/lang/UnsupportedOperationException", "java/lang/IllegalArgumentException"), ("java/util/NoSuchElementException", "java/lang/IllegalArgumentException"), ("java/lang/IllegalStateException", "java/lang/IllegalArgumentException"), ("java/util/NoSuchElementException", "java/lang/UnsupportedOperationException"), ("java/lang/IllegalStateException", "java/lang/UnsupportedOperationException"), ("java/lang/IllegalStateException", "java/util/NoSuchElementException")]
/-- what holds of the machine beside the objects: statics of Throwable, texts, casts -/
def gSt (sz0 : Nat) (U : State) (H : Heap) : Prop :=
  vx_Zq Bundle.tN "UNASSIGNED_STACK" Bundle.steD (fun q => sz0 ≤ q) U H ∧ vx_Zq Bundle.tN "SUPPRESSED_SENTINEL" Bundle.listD (fun q => sz0 ≤ q) U H ∧
  (∀ q ∈ gStrs, ∃ a, vk_R q.1 q.2.1 q.2.2 a U) ∧ (∀ w ∈ gB, va_Nw w U) ∧ ∀ q ∈ gNcs, va_Nc q.1 q.2 U
theorem gSt_warm {sz0 : Nat} {s U : State} {H : Heap} {locs : List Loc} (hW : s.WarmedH U.vm) (hS : va_S (fun q => sz0 ≤ q) s.heap H locs) (h : gSt sz0 s s.heap) : gSt sz0 U H := by
  obtain ⟨h1, h2, h3, h4, h5⟩ := h
  refine ⟨vx_Zq.moved hW.alike (vx_Zq.kept h1 hS.2.1), vx_Zq.moved hW.alike (vx_Zq.kept h2 hS.2.1), fun q hq => ?_, fun w hw => gSoft_warm (List.mem_filter.mp hw).2 hW (h4 w hw), fun q hq => (h5 q hq).moved hW.alike⟩
  obtain ⟨a, ha⟩ := h3 q hq
  exact ⟨a, ha.warm hW⟩
/-- the objects' classes, the arrays' classes, where our cells begin, the arrays' class numbers, the launch -/
abbrev gEnv : Type := va_G × List (ClassId × FieldType) × Nat × (Nat → ClassId) × Launch
abbrev gCtx : Type := Program × Env × Room × State × MethodId × Array Value × List Frame × Method × Code × Nat × (State → Prop)
def gWd (Z : gEnv) (h : gH) (H : Heap) : Prop := ∀ (a : Nat) (x : va_E), h a = some x → va_at Z.1 vwCl (a, x) H ∧ Z.2.2.1 ≤ a
def gA (Z : gEnv) : Nat → Prop := fun q => Z.2.2.1 ≤ q
def gW (Z : gEnv) (Γ : gCtx) (H : Heap) (locs : List Loc) (k n : Nat) (g : JFrame) : Prop := W Γ.1 Z.2.2.2.2 Γ.2.1 Γ.2.2.1 Γ.2.2.2.1 Γ.2.2.2.2.1 Γ.2.2.2.2.2.1 Γ.2.2.2.2.2.2.1 Γ.2.2.2.2.2.2.2.1 Γ.2.2.2.2.2.2.2.2.1 H locs k n Γ.2.2.2.2.2.2.2.2.2.2 g
def GJ (Z : gEnv) (Γ : gCtx) (h : gH) (k n pc : Nat) (lv : List (Nat × Value)) (st : List Value) : Prop :=
  ∀ (H : Heap) (locs : List Loc) (ls : Array Slot), gWd Z h H → va_S (gA Z) Γ.2.2.2.1.heap H locs → lv_has ls Γ.2.2.2.2.2.2.2.2.2.1 lv → gW Z Γ H locs k n (F0 Γ.2.2.2.2.1 pc ls st)
/-- an exception of the class E in flight at pc -/
def GX (Z : gEnv) (Γ : gCtx) (h : gH) (k n pc : Nat) (lv : List (Nat × Value)) (rest : List Value) (E : String) : Prop :=
  ∀ (H : Heap) (locs : List Loc) (ls : Array Slot) (q : Nat) (ce : Cell), gWd Z h H → va_S (gA Z) Γ.2.2.2.1.heap H locs → lv_has ls Γ.2.2.2.2.2.2.2.2.2.1 lv → H[q]? = some ce → ce.vm = .none → Γ.2.2.2.1.vm.findClass E = some ce.cls →
    vx_W Γ.1 Z.2.2.2.2 Γ.2.1 Γ.2.2.1 Γ.2.2.2.1 Γ.2.2.2.2.1 Γ.2.2.2.2.2.1 Γ.2.2.2.2.2.2.1 Γ.2.2.2.2.2.2.2.1 Γ.2.2.2.2.2.2.2.2.1 H locs k n Γ.2.2.2.2.2.2.2.2.2.2 (F0 Γ.2.2.2.2.1 pc ls rest) q
/-- the facts of a method's frame -/
def gOK (Z : gEnv) (Γ : gCtx) (cc : ByteArray) (own : String) (nL : Nat) (ret : Option FieldType) : Prop :=
  Γ.1.tables.exec = Jvm.exec ∧ Γ.2.2.2.2.2.2.2.2.1.code = cc ∧ Γ.2.2.2.2.2.2.2.2.1.maxLocals = nL ∧ Γ.2.2.2.2.2.2.2.2.2.1 = nL ∧ Γ.2.2.2.1.vm.findClass own = some Γ.2.2.2.2.1.cls ∧
  (∀ w ∈ gT, w.before Γ.2.2.2.2.2.1 Γ.2.2.2.1 = true) ∧ Γ.2.2.2.2.2.2.2.1.locks = false ∧ Γ.2.2.2.2.2.2.2.1.sig.returnType = ret ∧ Z.2.2.2.2.stackTraces = false ∧ va_K Z.1 vwCl Z.2.1 Γ.2.2.2.1 ∧ gSt Z.2.2.1 Γ.2.2.2.1 Γ.2.2.2.1.heap ∧ Z.2.2.1 ≤ Γ.2.2.2.1.heap.size
variable {Z : gEnv} {Γ : gCtx} {cc : ByteArray} {own : String} {nL : Nat} {ret : Option FieldType} {h : gH} {k n pc : Nat} {lv : List (Nat × Value)} {st : List Value}
theorem gOK.exec (X : gOK Z Γ cc own nL ret) : Γ.1.tables.exec = Jvm.exec := X.1
theorem gOK.bytes (X : gOK Z Γ cc own nL ret) : Γ.2.2.2.2.2.2.2.2.1.code = cc := X.2.1
theorem gOK.maxl (X : gOK Z Γ cc own nL ret) : Γ.2.2.2.2.2.2.2.2.1.maxLocals = nL := X.2.2.1
theorem gOK.nl (X : gOK Z Γ cc own nL ret) : Γ.2.2.2.2.2.2.2.2.2.1 = nL := X.2.2.2.1
theorem gOK.ow (X : gOK Z Γ cc own nL ret) : Γ.2.2.2.1.vm.findClass own = some Γ.2.2.2.2.1.cls := X.2.2.2.2.1
theorem gOK.wd (X : gOK Z Γ cc own nL ret) {w : Cond} (hw : w ∈ gT) : w.before Γ.2.2.2.2.2.1 Γ.2.2.2.1 = true := X.2.2.2.2.2.1 w hw
theorem gOK.wds (X : gOK Z Γ cc own nL ret) : ∀ w ∈ gT, w.before Γ.2.2.2.2.2.1 Γ.2.2.2.1 = true := X.2.2.2.2.2.1
theorem gOK.locks (X : gOK Z Γ cc own nL ret) : Γ.2.2.2.2.2.2.2.1.locks = false := X.2.2.2.2.2.2.1
theorem gOK.rt (X : gOK Z Γ cc own nL ret) : Γ.2.2.2.2.2.2.2.1.sig.returnType = ret := X.2.2.2.2.2.2.2.1
theorem gOK.nst (X : gOK Z Γ cc own nL ret) : Z.2.2.2.2.stackTraces = false := X.2.2.2.2.2.2.2.2.1
theorem gOK.K (X : gOK Z Γ cc own nL ret) : va_K Z.1 vwCl Z.2.1 Γ.2.2.2.1 := X.2.2.2.2.2.2.2.2.2.1
theorem gOK.stt (X : gOK Z Γ cc own nL ret) : gSt Z.2.2.1 Γ.2.2.2.1 Γ.2.2.2.1.heap := X.2.2.2.2.2.2.2.2.2.2.1
theorem gOK.base (X : gOK Z Γ cc own nL ret) : Z.2.2.1 ≤ Γ.2.2.2.1.heap.size := X.2.2.2.2.2.2.2.2.2.2.2
theorem gWd.one {h : gH} {H : Heap} {a : Nat} {x : va_E} (hw : gWd Z h H) (ha : h a = some x) : va_P Z.1 vwCl [(a, x)] H := by
  intro i q hq
  rcases i with _ | i
  · cases hq
    exact (hw a x ha).1
  · cases hq
theorem gWd.oneD {h : gH} {H : Heap} {a : Nat} {x : va_E} (hw : gWd Z h H) (ha : h a = some x) : va_D (gA Z) [(a, x)] := by
  refine ⟨fun i j p q hi hj _ => ?_, fun i q hq => ?_⟩
  · rcases i with _ | i
    · rcases j with _ | j
      · rfl
      · cases hj
    · cases hi
  · rcases i with _ | i
    · cases hq
      exact (hw a x ha).2
    · cases hq
theorem gWd.lt {h : gH} {H : Heap} {a : Nat} {x : va_E} (hw : gWd Z h H) (ha : h a = some x) : a < H.size := (hw a x ha).1.lt
/-- a cell changed -/
theorem gWd.put {h : gH} {H H1 : Heap} {a : Nat} {x0 x : va_E} (hw : gWd Z h H) (ha : h a = some x0) (hx : va_at Z.1 vwCl (a, x) H1) (oq : ∀ q : Nat, q ≠ a → H1[q]? = H[q]?) : gWd Z (va_up h a (some x)) H1 := by
  intro b y hy
  by_cases hb : b = a
  · subst hb
    simp only [va_up, if_pos rfl] at hy
    cases hy
    exact ⟨hx, (hw b x0 ha).2⟩
  · simp only [va_up, if_neg hb] at hy
    exact ⟨(hw b y hy).1.kept (oq b hb), (hw b y hy).2⟩
/-- a cell more, at the heap's end -/
theorem gWd.push {h : gH} {H H1 : Heap} {x : va_E} (hw : gWd Z h H) (hz : Z.2.2.1 ≤ H.size) (hx : va_at Z.1 vwCl (H.size, x) H1) (oq : ∀ q : Nat, q < H.size → H1[q]? = H[q]?) : gWd Z (va_up h H.size (some x)) H1 := by
  intro b y hy
  by_cases hb : b = H.size
  · subst hb
    simp only [va_up, if_pos rfl] at hy
    cases hy
    exact ⟨hx, hz⟩
  · simp only [va_up, if_neg hb] at hy
    exact ⟨(hw b y hy).1.kept (oq b (hw.lt hy)), (hw b y hy).2⟩
theorem gWd.kept {h : gH} {H H1 : Heap} (hw : gWd Z h H) (oq : ∀ q : Nat, q < H.size → H1[q]? = H[q]?) : gWd Z h H1 := fun b y hy => ⟨(hw b y hy).1.kept (oq b (hw.lt hy)), (hw b y hy).2⟩
theorem gWd.sub {h h' : gH} {H : Heap} (hw : gWd Z h H) (hs : ∀ a x, h' a = some x → h a = some x) : gWd Z h' H := fun a x ha => hw a x (hs a x ha)
end GFRAME
end
section
/-! rows of the judgement GJ: an instruction each -/
section GROWS
variable {Z : gEnv} {Γ : gCtx} {cc : ByteArray} {own : String} {nL : Nat} {ret : Option FieldType} {h : gH} {k n pc : Nat} {lv lv' : List (Nat × Value)} {st : List Value}
theorem GJ.widen {k' n' : Nat} (h1 : k ≤ k') (h2 : n ≤ n') (kk : GJ Z Γ h k' n' pc lv st) : GJ Z Γ h k n pc lv st := fun H locs ls hw hS hl => W.widen h1 h2 (kk H locs ls hw hS hl)
theorem GX.widen {k' n' : Nat} {E : String} (h1 : k ≤ k') (h2 : n ≤ n') (kk : GX Z Γ h k' n' pc lv st E) : GX Z Γ h k n pc lv st E := fun H locs ls q ce hw hS hl a b c => vx_widen h1 h2 (kk H locs ls q ce hw hS hl a b c)
theorem GJ.sub {h' : gH} (hs : ∀ a x, h' a = some x → h a = some x) (kk : GJ Z Γ h' k n pc lv st) : GJ Z Γ h k n pc lv st := fun H locs ls hw hS hl => kk H locs ls (hw.sub hs) hS hl
theorem GJ.loc (hs : ∀ q ∈ lv', q ∈ lv) (kk : GJ Z Γ h k n pc lv' st) : GJ Z Γ h k n pc lv st := fun H locs ls hw hS hl => kk H locs ls hw hS ⟨hl.1, hl.2.1, fun q hq => hl.2.2 q (hs q hq)⟩
theorem GJ.pick (ks : List Nat) (hs : lv_pick lv ks = lv') (kk : GJ Z Γ h k n pc lv' st) : GJ Z Γ h k n pc lv st := fun H locs ls hw hS hl => kk H locs ls hw hS (lv_sub hl ks hs)
/-- the value at a place of the list of locals -/
def gLoc : List (Nat × Value) → Nat → Option Value
  | [], _ => none
  | q :: l, i => if q.1 = i then some q.2 else gLoc l i
theorem gLoc_mem {i : Nat} {v : Value} : ∀ {lv : List (Nat × Value)}, gLoc lv i = some v → (i, v) ∈ lv
  | [], hh => by cases hh
  | q :: l, hh => by
    unfold gLoc at hh
    by_cases hq : q.1 = i
    · rw [if_pos hq] at hh
      cases hh
      rw [← hq]
      exact List.mem_cons_self
    · rw [if_neg hq] at hh
      exact List.mem_cons_of_mem _ (gLoc_mem hh)
theorem gLoc_at {ls : Array Slot} {nL i : Nat} {v : Value} (hl : lv_has ls nL lv) (hi : gLoc lv i = some v) : ls[i]? = some (.val v) := hl.2.2 _ (gLoc_mem hi)
theorem g_iconst {x : Int} {v : Int32} (X : gOK Z Γ cc own nL ret) (d : decode cc pc = .ok (.iconst x, 1)) (hv : Int32.ofInt x = v) (kk : GJ Z Γ h k n (pc + 1) lv (.int v :: st)) : GJ Z Γ h k n pc lv st := fun H locs ls hw hS hl => lv_iconst X.exec X.bytes d hv (kk H locs ls hw hS hl)
theorem g_bipush {x : Int} {v : Int32} (X : gOK Z Γ cc own nL ret) (d : decode cc pc = .ok (.bipush x, 2)) (hv : (Int8.ofInt x).toInt32 = v) (kk : GJ Z Γ h k n (pc + 2) lv (.int v :: st)) : GJ Z Γ h k n pc lv st := fun H locs ls hw hS hl => lv_bipush X.exec X.bytes d hv (kk H locs ls hw hS hl)
theorem g_sipush {x : Int} {v : Int32} (X : gOK Z Γ cc own nL ret) (d : decode cc pc = .ok (.sipush x, 3)) (hv : (Int16.ofInt x).toInt32 = v) (kk : GJ Z Γ h k n (pc + 3) lv (.int v :: st)) : GJ Z Γ h k n pc lv st := fun H locs ls hw hS hl => lv_sipush X.exec X.bytes d hv (kk H locs ls hw hS hl)
theorem g_ldc {index : Nat} {v : Int32} (X : gOK Z Γ cc own nL ret) (d : decode cc pc = .ok (.ldc index, 2)) (hc : Cond.constant own index v ∈ gT) (kk : GJ Z Γ h k n (pc + 2) lv (.int v :: st)) : GJ Z Γ h k n pc lv st := fun H locs ls hw hS hl => lv_ldc X.exec X.bytes X.ow (X.wd hc) d (kk H locs ls hw hS hl)
theorem g_lconst {x : Fin 2} {v : Int64} (X : gOK Z Γ cc own nL ret) (d : decode cc pc = .ok (.lconst x, 1)) (hv : Int64.ofNat (x : Nat) = v) (kk : GJ Z Γ h k n (pc + 1) lv (.long v :: st)) : GJ Z Γ h k n pc lv st := fun H locs ls hw hS hl => lv_lconst X.exec X.bytes d hv (kk H locs ls hw hS hl)
theorem g_ldc2 {index : Nat} {v : Int64} (X : gOK Z Γ cc own nL ret) (d : decode cc pc = .ok (.ldc2_w index, 3)) (hc : Cond.constantLong own index v ∈ gT) (kk : GJ Z Γ h k n (pc + 3) lv (.long v :: st)) : GJ Z Γ h k n pc lv st := fun H locs ls hw hS hl => lv_ldc2 X.exec X.bytes X.ow (X.wd hc) d (kk H locs ls hw hS hl)
theorem g_null (X : gOK Z Γ cc own nL ret) (d : decode cc pc = .ok (.aconst_null, 1)) (kk : GJ Z Γ h k n (pc + 1) lv (.null :: st)) : GJ Z Γ h k n pc lv st := fun H locs ls hw hS hl => lv_null X.exec X.bytes d (kk H locs ls hw hS hl)
theorem g_iload {i : Nat} {x : Int32} (X : gOK Z Γ cc own nL ret) (d : decode cc pc = .ok (.iload i, 2)) (hi : gLoc lv i = some (.int x)) (kk : GJ Z Γ h k n (pc + 2) lv (.int x :: st)) : GJ Z Γ h k n pc lv st := fun H locs ls hw hS hl => lv_iload X.exec X.bytes d (gLoc_at hl hi) (kk H locs ls hw hS hl)
theorem g_iload_n {j : Fin 4} {x : Int32} (X : gOK Z Γ cc own nL ret) (d : decode cc pc = .ok (.iload_n j, 1)) (hi : gLoc lv (j : Nat) = some (.int x)) (kk : GJ Z Γ h k n (pc + 1) lv (.int x :: st)) : GJ Z Γ h k n pc lv st := fun H locs ls hw hS hl => lv_iload_n X.exec X.bytes d rfl (gLoc_at hl hi) (kk H locs ls hw hS hl)
theorem g_lload {i : Nat} {x : Int64} (X : gOK Z Γ cc own nL ret) (d : decode cc pc = .ok (.lload i, 2)) (hi : gLoc lv i = some (.long x)) (kk : GJ Z Γ h k n (pc + 2) lv (.long x :: st)) : GJ Z Γ h k n pc lv st := fun H locs ls hw hS hl => lv_lload X.exec X.bytes d (gLoc_at hl hi) (kk H locs ls hw hS hl)
theorem g_lload_n {j : Fin 4} {x : Int64} (X : gOK Z Γ cc own nL ret) (d : decode cc pc = .ok (.lload_n j, 1)) (hi : gLoc lv (j : Nat) = some (.long x)) (kk : GJ Z Γ h k n (pc + 1) lv (.long x :: st)) : GJ Z Γ h k n pc lv st := fun H locs ls hw hS hl => lv_lload_n X.exec X.bytes d rfl (gLoc_at hl hi) (kk H locs ls hw hS hl)
theorem g_aload {i : Nat} {x : Nat} (X : gOK Z Γ cc own nL ret) (d : decode cc pc = .ok (.aload i, 2)) (hi : gLoc lv i = some (.ref x)) (kk : GJ Z Γ h k n (pc + 2) lv (.ref x :: st)) : GJ Z Γ h k n pc lv st := fun H locs ls hw hS hl => lv_aload X.exec X.bytes d (gLoc_at hl hi) (kk H locs ls hw hS hl)
theorem g_aload_n {j : Fin 4} {x : Nat} (X : gOK Z Γ cc own nL ret) (d : decode cc pc = .ok (.aload_n j, 1)) (hi : gLoc lv (j : Nat) = some (.ref x)) (kk : GJ Z Γ h k n (pc + 1) lv (.ref x :: st)) : GJ Z Γ h k n pc lv st := fun H locs ls hw hS hl => lv_aload_n X.exec X.bytes d rfl (gLoc_at hl hi) (kk H locs ls hw hS hl)
theorem g_aloadN {i : Nat} (X : gOK Z Γ cc own nL ret) (d : decode cc pc = .ok (.aload i, 2)) (hi : gLoc lv i = some .null) (kk : GJ Z Γ h k n (pc + 2) lv (.null :: st)) : GJ Z Γ h k n pc lv st := fun H locs ls hw hS hl => lv_aloadN X.exec X.bytes d (gLoc_at hl hi) (kk H locs ls hw hS hl)
theorem g_aload_nN {j : Fin 4} (X : gOK Z Γ cc own nL ret) (d : decode cc pc = .ok (.aload_n j, 1)) (hi : gLoc lv (j : Nat) = some .null) (kk : GJ Z Γ h k n (pc + 1) lv (.null :: st)) : GJ Z Γ h k n pc lv st := fun H locs ls hw hS hl => lv_aload_nN X.exec X.bytes d rfl (gLoc_at hl hi) (kk H locs ls hw hS hl)
/-- the list of locals behind a store of one word, of two -/
def gSet1 (lv : List (Nat × Value)) (i : Nat) (v : Value) : List (Nat × Value) := (i, v) :: lv.filter (fun q => !(q.1 == i) && !(q.1 + 1 == i && q.2.category == 2))
def gSet2 (lv : List (Nat × Value)) (i : Nat) (v : Value) : List (Nat × Value) := (i, v) :: lv.filter (fun q => !(q.1 == i) && (!(q.1 == i + 1) && !(q.1 + 1 == i && q.2.category == 2)))
theorem g_istore {i : Nat} {x : Int32} (X : gOK Z Γ cc own nL ret) (d : decode cc pc = .ok (.istore i, 2)) (hn : i < nL) (hl' : gSet1 lv i (.int x) = lv') (kk : GJ Z Γ h k n (pc + 2) lv' st) : GJ Z Γ h k n pc lv (.int x :: st) := fun H locs ls hw hS hl => lv_istore X.exec X.bytes d hl (by rw [X.nl]; exact hn) hl' (fun ls' hl2 => kk H locs ls' hw hS hl2)
theorem g_istore_n {j : Fin 4} {x : Int32} (X : gOK Z Γ cc own nL ret) (d : decode cc pc = .ok (.istore_n j, 1)) (hn : (j : Nat) < nL) (hl' : gSet1 lv j (.int x) = lv') (kk : GJ Z Γ h k n (pc + 1) lv' st) : GJ Z Γ h k n pc lv (.int x :: st) := fun H locs ls hw hS hl => lv_istore_n X.exec X.bytes d rfl hl (by rw [X.nl]; exact hn) hl' (fun ls' hl2 => kk H locs ls' hw hS hl2)
theorem g_lstore {i : Nat} {x : Int64} (X : gOK Z Γ cc own nL ret) (d : decode cc pc = .ok (.lstore i, 2)) (hn : i + 1 < nL) (hl' : gSet2 lv i (.long x) = lv') (kk : GJ Z Γ h k n (pc + 2) lv' st) : GJ Z Γ h k n pc lv (.long x :: st) := fun H locs ls hw hS hl => lv_lstore X.exec X.bytes d hl (by rw [X.nl]; exact hn) hl' (fun ls' hl2 => kk H locs ls' hw hS hl2)
theorem g_lstore_n {j : Fin 4} {x : Int64} (X : gOK Z Γ cc own nL ret) (d : decode cc pc = .ok (.lstore_n j, 1)) (hn : (j : Nat) + 1 < nL) (hl' : gSet2 lv j (.long x) = lv') (kk : GJ Z Γ h k n (pc + 1) lv' st) : GJ Z Γ h k n pc lv (.long x :: st) := fun H locs ls hw hS hl => lv_lstore_n X.exec X.bytes d rfl hl (by rw [X.nl]; exact hn) hl' (fun ls' hl2 => kk H locs ls' hw hS hl2)
theorem g_astore {i : Nat} {x : Nat} (X : gOK Z Γ cc own nL ret) (d : decode cc pc = .ok (.astore i, 2)) (hn : i < nL) (hl' : gSet1 lv i (.ref x) = lv') (kk : GJ Z Γ h k n (pc + 2) lv' st) : GJ Z Γ h k n pc lv (.ref x :: st) := fun H locs ls hw hS hl => lv_astore X.exec X.bytes d hl (by rw [X.nl]; exact hn) hl' (fun ls' hl2 => kk H locs ls' hw hS hl2)
theorem g_astore_n {j : Fin 4} {x : Nat} (X : gOK Z Γ cc own nL ret) (d : decode cc pc = .ok (.astore_n j, 1)) (hn : (j : Nat) < nL) (hl' : gSet1 lv j (.ref x) = lv') (kk : GJ Z Γ h k n (pc + 1) lv' st) : GJ Z Γ h k n pc lv (.ref x :: st) := fun H locs ls hw hS hl => lv_astore_n X.exec X.bytes d rfl hl (by rw [X.nl]; exact hn) hl' (fun ls' hl2 => kk H locs ls' hw hS hl2)
theorem g_astoreN {i : Nat} (X : gOK Z Γ cc own nL ret) (d : decode cc pc = .ok (.astore i, 2)) (hn : i < nL) (hl' : gSet1 lv i .null = lv') (kk : GJ Z Γ h k n (pc + 2) lv' st) : GJ Z Γ h k n pc lv (.null :: st) := fun H locs ls hw hS hl => lv_astoreN X.exec X.bytes d hl (by rw [X.nl]; exact hn) hl' (fun ls' hl2 => kk H locs ls' hw hS hl2)
theorem g_astore_nN {j : Fin 4} (X : gOK Z Γ cc own nL ret) (d : decode cc pc = .ok (.astore_n j, 1)) (hn : (j : Nat) < nL) (hl' : gSet1 lv j .null = lv') (kk : GJ Z Γ h k n (pc + 1) lv' st) : GJ Z Γ h k n pc lv (.null :: st) := fun H locs ls hw hS hl => lv_astore_nN X.exec X.bytes d rfl hl (by rw [X.nl]; exact hn) hl' (fun ls' hl2 => kk H locs ls' hw hS hl2)
theorem g_iinc {i : Nat} {c : Int} {x : Int32} (j : Nat) (X : gOK Z Γ cc own nL ret) (d : decode cc pc = .ok (.iinc i c, 3)) (hj : lv[j]? = some (i, .int x)) (hn : i < nL) (kk : ∀ v : Int32, v = x + Int32.ofInt c → ∀ lv', gSet1 lv i (.int v) = lv' → GJ Z Γ h k n (pc + 3) lv' st) : GJ Z Γ h k n pc lv st := fun H locs ls hw hS hl => lv_iinc X.exec X.bytes d hl hj rfl (by rw [X.nl]; exact hn) rfl (fun ls' hl2 => kk _ rfl _ rfl H locs ls' hw hS hl2)
theorem g_dup {v : Value} (X : gOK Z Γ cc own nL ret) (d : decode cc pc = .ok (.dup, 1)) (hc : v.category = 1) (kk : GJ Z Γ h k n (pc + 1) lv (v :: v :: st)) : GJ Z Γ h k n pc lv (v :: st) := fun H locs ls hw hS hl => lv_dup X.exec X.bytes d hc (kk H locs ls hw hS hl)
theorem g_dup2 {v w : Value} (X : gOK Z Γ cc own nL ret) (d : decode cc pc = .ok (.dup2, 1)) (hc : v.category = 1) (hc2 : w.category = 1) (kk : GJ Z Γ h k n (pc + 1) lv (v :: w :: v :: w :: st)) : GJ Z Γ h k n pc lv (v :: w :: st) := fun H locs ls hw hS hl => lv_dup2_11 X.exec X.bytes d hc hc2 (kk H locs ls hw hS hl)
theorem g_pop {v : Value} (X : gOK Z Γ cc own nL ret) (d : decode cc pc = .ok (.pop, 1)) (hc : v.category = 1) (kk : GJ Z Γ h k n (pc + 1) lv st) : GJ Z Γ h k n pc lv (v :: st) := fun H locs ls hw hS hl => lv_pop X.exec X.bytes d hc (kk H locs ls hw hS hl)
theorem g_iadd {x y : Int32} (X : gOK Z Γ cc own nL ret) (d : decode cc pc = .ok (.iadd, 1)) (kk : ∀ z : Int32, z = x + y → GJ Z Γ h k n (pc + 1) lv (.int z :: st)) : GJ Z Γ h k n pc lv (.int y :: .int x :: st) := fun H locs ls hw hS hl => lv_iadd X.exec X.bytes d (kk _ rfl H locs ls hw hS hl)
theorem g_isub {x y : Int32} (X : gOK Z Γ cc own nL ret) (d : decode cc pc = .ok (.isub, 1)) (kk : ∀ z : Int32, z = x - y → GJ Z Γ h k n (pc + 1) lv (.int z :: st)) : GJ Z Γ h k n pc lv (.int y :: .int x :: st) := fun H locs ls hw hS hl => lv_isub X.exec X.bytes d (kk _ rfl H locs ls hw hS hl)
theorem g_imul {x y : Int32} (X : gOK Z Γ cc own nL ret) (d : decode cc pc = .ok (.imul, 1)) (kk : ∀ z : Int32, z = x * y → GJ Z Γ h k n (pc + 1) lv (.int z :: st)) : GJ Z Γ h k n pc lv (.int y :: .int x :: st) := fun H locs ls hw hS hl => lv_imul X.exec X.bytes d (kk _ rfl H locs ls hw hS hl)
theorem g_iand {x y : Int32} (X : gOK Z Γ cc own nL ret) (d : decode cc pc = .ok (.iand, 1)) (kk : ∀ z : Int32, z = x &&& y → GJ Z Γ h k n (pc + 1) lv (.int z :: st)) : GJ Z Γ h k n pc lv (.int y :: .int x :: st) := fun H locs ls hw hS hl => lv_iand X.exec X.bytes d (kk _ rfl H locs ls hw hS hl)
theorem g_ior {x y : Int32} (X : gOK Z Γ cc own nL ret) (d : decode cc pc = .ok (.ior, 1)) (kk : ∀ z : Int32, z = x ||| y → GJ Z Γ h k n (pc + 1) lv (.int z :: st)) : GJ Z Γ h k n pc lv (.int y :: .int x :: st) := fun H locs ls hw hS hl => lv_ior X.exec X.bytes d (kk _ rfl H locs ls hw hS hl)
theorem g_ixor {x y : Int32} (X : gOK Z Γ cc own nL ret) (d : decode cc pc = .ok (.ixor, 1)) (kk : ∀ z : Int32, z = x ^^^ y → GJ Z Γ h k n (pc + 1) lv (.int z :: st)) : GJ Z Γ h k n pc lv (.int y :: .int x :: st) := fun H locs ls hw hS hl => lv_ixor X.exec X.bytes d (kk _ rfl H locs ls hw hS hl)
theorem g_idiv {x y : Int32} (X : gOK Z Γ cc own nL ret) (d : decode cc pc = .ok (.idiv, 1)) (h0 : ¬ y = 0) (kk : ∀ z : Int32, z = x / y → GJ Z Γ h k n (pc + 1) lv (.int z :: st)) : GJ Z Γ h k n pc lv (.int y :: .int x :: st) := fun H locs ls hw hS hl => lv_idiv X.exec X.bytes d h0 (kk _ rfl H locs ls hw hS hl)
theorem g_irem {x y : Int32} (X : gOK Z Γ cc own nL ret) (d : decode cc pc = .ok (.irem, 1)) (h0 : ¬ y = 0) (kk : ∀ z : Int32, z = x - x / y * y → GJ Z Γ h k n (pc + 1) lv (.int z :: st)) : GJ Z Γ h k n pc lv (.int y :: .int x :: st) := fun H locs ls hw hS hl => lv_irem X.exec X.bytes d h0 (kk _ rfl H locs ls hw hS hl)
theorem g_ineg {x : Int32} (X : gOK Z Γ cc own nL ret) (d : decode cc pc = .ok (.ineg, 1)) (kk : ∀ z : Int32, z = -x → GJ Z Γ h k n (pc + 1) lv (.int z :: st)) : GJ Z Γ h k n pc lv (.int x :: st) := fun H locs ls hw hS hl => lv_ineg X.exec X.bytes d (kk _ rfl H locs ls hw hS hl)
theorem g_ishl {x y : Int32} (X : gOK Z Γ cc own nL ret) (d : decode cc pc = .ok (.ishl, 1)) (kk : ∀ z : Int32, z = x <<< (y &&& 31) → GJ Z Γ h k n (pc + 1) lv (.int z :: st)) : GJ Z Γ h k n pc lv (.int y :: .int x :: st) := fun H locs ls hw hS hl => lv_ishl X.exec X.bytes d (kk _ rfl H locs ls hw hS hl)
theorem g_iushr {x y : Int32} (X : gOK Z Γ cc own nL ret) (d : decode cc pc = .ok (.iushr, 1)) (kk : ∀ z : Int32, z = (x.toUInt32 >>> (y.toUInt32 &&& Int32.toUInt32 31)).toInt32 → GJ Z Γ h k n (pc + 1) lv (.int z :: st)) : GJ Z Γ h k n pc lv (.int y :: .int x :: st) := fun H locs ls hw hS hl => lv_iushr X.exec X.bytes d rfl (kk _ rfl H locs ls hw hS hl)
theorem g_i2l {x : Int32} (X : gOK Z Γ cc own nL ret) (d : decode cc pc = .ok (.i2l, 1)) (kk : ∀ z : Int64, z = x.toInt64 → GJ Z Γ h k n (pc + 1) lv (.long z :: st)) : GJ Z Γ h k n pc lv (.int x :: st) := fun H locs ls hw hS hl => lv_i2l X.exec X.bytes d rfl (kk _ rfl H locs ls hw hS hl)
theorem g_i2c {x : Int32} (X : gOK Z Γ cc own nL ret) (d : decode cc pc = .ok (.i2c, 1)) (kk : ∀ z : Int32, z = (x.toUInt32 % 65536).toInt32 → GJ Z Γ h k n (pc + 1) lv (.int z :: st)) : GJ Z Γ h k n pc lv (.int x :: st) := fun H locs ls hw hS hl => lv_i2c X.exec X.bytes d rfl (kk _ rfl H locs ls hw hS hl)
theorem g_ladd {x y : Int64} (X : gOK Z Γ cc own nL ret) (d : decode cc pc = .ok (.ladd, 1)) (kk : ∀ z : Int64, z = x + y → GJ Z Γ h k n (pc + 1) lv (.long z :: st)) : GJ Z Γ h k n pc lv (.long y :: .long x :: st) := fun H locs ls hw hS hl => lv_ladd X.exec X.bytes d (kk _ rfl H locs ls hw hS hl)
theorem g_lsub {x y : Int64} (X : gOK Z Γ cc own nL ret) (d : decode cc pc = .ok (.lsub, 1)) (kk : ∀ z : Int64, z = x - y → GJ Z Γ h k n (pc + 1) lv (.long z :: st)) : GJ Z Γ h k n pc lv (.long y :: .long x :: st) := fun H locs ls hw hS hl => lv_lsub X.exec X.bytes d (kk _ rfl H locs ls hw hS hl)
theorem g_goto {off : Int} (tgt : Nat) (X : gOK Z Γ cc own nL ret) (d : decode cc pc = .ok (.goto off, 3)) (ht : (pc : Int) + off = (tgt : Int)) (kk : GJ Z Γ h k n tgt lv st) : GJ Z Γ h k n pc lv st := fun H locs ls hw hS hl => lv_goto X.exec X.bytes d ht (kk H locs ls hw hS hl)
theorem g_if_eq {x : Int32} {off : Int} (tgt : Nat) (X : gOK Z Γ cc own nL ret) (d : decode cc pc = .ok (.ifCond .eq off, 3)) (ht : (pc : Int) + off = (tgt : Int)) (kt : x = 0 → GJ Z Γ h k n tgt lv st) (kf : ¬ x = 0 → GJ Z Γ h k n (pc + 3) lv st) : GJ Z Γ h k n pc lv (.int x :: st) := fun H locs ls hw hS hl => lv_if_eq X.exec X.bytes d ht (fun c => kt c H locs ls hw hS hl) (fun c => kf c H locs ls hw hS hl)
theorem g_if_ne {x : Int32} {off : Int} (tgt : Nat) (X : gOK Z Γ cc own nL ret) (d : decode cc pc = .ok (.ifCond .ne off, 3)) (ht : (pc : Int) + off = (tgt : Int)) (kt : ¬ x = 0 → GJ Z Γ h k n tgt lv st) (kf : x = 0 → GJ Z Γ h k n (pc + 3) lv st) : GJ Z Γ h k n pc lv (.int x :: st) := fun H locs ls hw hS hl => lv_if_ne X.exec X.bytes d ht (fun c => kt c H locs ls hw hS hl) (fun c => kf c H locs ls hw hS hl)
theorem g_if_lt {x : Int32} {off : Int} (tgt : Nat) (X : gOK Z Γ cc own nL ret) (d : decode cc pc = .ok (.ifCond .lt off, 3)) (ht : (pc : Int) + off = (tgt : Int)) (kt : x < 0 → GJ Z Γ h k n tgt lv st) (kf : ¬ x < 0 → GJ Z Γ h k n (pc + 3) lv st) : GJ Z Γ h k n pc lv (.int x :: st) := fun H locs ls hw hS hl => lv_if_lt X.exec X.bytes d ht (fun c => kt c H locs ls hw hS hl) (fun c => kf c H locs ls hw hS hl)
theorem g_if_ge {x : Int32} {off : Int} (tgt : Nat) (X : gOK Z Γ cc own nL ret) (d : decode cc pc = .ok (.ifCond .ge off, 3)) (ht : (pc : Int) + off = (tgt : Int)) (kt : ¬ x < 0 → GJ Z Γ h k n tgt lv st) (kf : x < 0 → GJ Z Γ h k n (pc + 3) lv st) : GJ Z Γ h k n pc lv (.int x :: st) := fun H locs ls hw hS hl => lv_if_ge X.exec X.bytes d ht (fun c => kt (Int32.not_lt.mpr c) H locs ls hw hS hl) (fun c => kf (Int32.not_le.mp c) H locs ls hw hS hl)
theorem g_if_gt {x : Int32} {off : Int} (tgt : Nat) (X : gOK Z Γ cc own nL ret) (d : decode cc pc = .ok (.ifCond .gt off, 3)) (ht : (pc : Int) + off = (tgt : Int)) (kt : 0 < x → GJ Z Γ h k n tgt lv st) (kf : ¬ 0 < x → GJ Z Γ h k n (pc + 3) lv st) : GJ Z Γ h k n pc lv (.int x :: st) := fun H locs ls hw hS hl => lv_if_gt X.exec X.bytes d ht (fun c => kt c H locs ls hw hS hl) (fun c => kf c H locs ls hw hS hl)
theorem g_if_le {x : Int32} {off : Int} (tgt : Nat) (X : gOK Z Γ cc own nL ret) (d : decode cc pc = .ok (.ifCond .le off, 3)) (ht : (pc : Int) + off = (tgt : Int)) (kt : ¬ 0 < x → GJ Z Γ h k n tgt lv st) (kf : 0 < x → GJ Z Γ h k n (pc + 3) lv st) : GJ Z Γ h k n pc lv (.int x :: st) := fun H locs ls hw hS hl => lv_if_le X.exec X.bytes d ht (fun c => kt (Int32.not_lt.mpr c) H locs ls hw hS hl) (fun c => kf (Int32.not_le.mp c) H locs ls hw hS hl)
theorem g_icmp_eq {x y : Int32} {off : Int} (tgt : Nat) (X : gOK Z Γ cc own nL ret) (d : decode cc pc = .ok (.if_icmp .eq off, 3)) (ht : (pc : Int) + off = (tgt : Int)) (kt : x = y → GJ Z Γ h k n tgt lv st) (kf : ¬ x = y → GJ Z Γ h k n (pc + 3) lv st) : GJ Z Γ h k n pc lv (.int y :: .int x :: st) := fun H locs ls hw hS hl => lv_icmp_eq X.exec X.bytes d ht (fun c => kt c H locs ls hw hS hl) (fun c => kf c H locs ls hw hS hl)
theorem g_icmp_ne {x y : Int32} {off : Int} (tgt : Nat) (X : gOK Z Γ cc own nL ret) (d : decode cc pc = .ok (.if_icmp .ne off, 3)) (ht : (pc : Int) + off = (tgt : Int)) (kt : ¬ x = y → GJ Z Γ h k n tgt lv st) (kf : x = y → GJ Z Γ h k n (pc + 3) lv st) : GJ Z Γ h k n pc lv (.int y :: .int x :: st) := fun H locs ls hw hS hl => lv_icmp_ne X.exec X.bytes d ht (fun c => kt c H locs ls hw hS hl) (fun c => kf c H locs ls hw hS hl)
theorem g_icmp_lt {x y : Int32} {off : Int} (tgt : Nat) (X : gOK Z Γ cc own nL ret) (d : decode cc pc = .ok (.if_icmp .lt off, 3)) (ht : (pc : Int) + off = (tgt : Int)) (kt : x < y → GJ Z Γ h k n tgt lv st) (kf : ¬ x < y → GJ Z Γ h k n (pc + 3) lv st) : GJ Z Γ h k n pc lv (.int y :: .int x :: st) := fun H locs ls hw hS hl => lv_icmp_lt X.exec X.bytes d ht (fun c => kt c H locs ls hw hS hl) (fun c => kf c H locs ls hw hS hl)
theorem g_icmp_ge {x y : Int32} {off : Int} (tgt : Nat) (X : gOK Z Γ cc own nL ret) (d : decode cc pc = .ok (.if_icmp .ge off, 3)) (ht : (pc : Int) + off = (tgt : Int)) (kt : ¬ x < y → GJ Z Γ h k n tgt lv st) (kf : x < y → GJ Z Γ h k n (pc + 3) lv st) : GJ Z Γ h k n pc lv (.int y :: .int x :: st) := fun H locs ls hw hS hl => lv_icmp_ge X.exec X.bytes d ht (fun c => kt (Int32.not_lt.mpr c) H locs ls hw hS hl) (fun c => kf (Int32.not_le.mp c) H locs ls hw hS hl)
theorem g_icmp_gt {x y : Int32} {off : Int} (tgt : Nat) (X : gOK Z Γ cc own nL ret) (d : decode cc pc = .ok (.if_icmp .gt off, 3)) (ht : (pc : Int) + off = (tgt : Int)) (kt : y < x → GJ Z Γ h k n tgt lv st) (kf : ¬ y < x → GJ Z Γ h k n (pc + 3) lv st) : GJ Z Γ h k n pc lv (.int y :: .int x :: st) := fun H locs ls hw hS hl => lv_icmp_gt X.exec X.bytes d ht (fun c => kt c H locs ls hw hS hl) (fun c => kf c H locs ls hw hS hl)
theorem g_icmp_le {x y : Int32} {off : Int} (tgt : Nat) (X : gOK Z Γ cc own nL ret) (d : decode cc pc = .ok (.if_icmp .le off, 3)) (ht : (pc : Int) + off = (tgt : Int)) (kt : ¬ y < x → GJ Z Γ h k n tgt lv st) (kf : y < x → GJ Z Γ h k n (pc + 3) lv st) : GJ Z Γ h k n pc lv (.int y :: .int x :: st) := fun H locs ls hw hS hl => lv_icmp_le X.exec X.bytes d ht (fun c => kt (Int32.not_lt.mpr c) H locs ls hw hS hl) (fun c => kf (Int32.not_le.mp c) H locs ls hw hS hl)
theorem g_ifnull {x : Nat} {off : Int} (X : gOK Z Γ cc own nL ret) (d : decode cc pc = .ok (.ifnull off, 3)) (kk : GJ Z Γ h k n (pc + 3) lv st) : GJ Z Γ h k n pc lv (.ref x :: st) := fun H locs ls hw hS hl => lv_ifnull X.exec X.bytes d (kk H locs ls hw hS hl)
theorem g_ifnullN {off : Int} (tgt : Nat) (X : gOK Z Γ cc own nL ret) (d : decode cc pc = .ok (.ifnull off, 3)) (ht : (pc : Int) + off = (tgt : Int)) (kk : GJ Z Γ h k n tgt lv st) : GJ Z Γ h k n pc lv (.null :: st) := fun H locs ls hw hS hl => lv_ifnullN X.exec X.bytes d ht (kk H locs ls hw hS hl)
theorem g_ifnonnull {x : Nat} {off : Int} (tgt : Nat) (X : gOK Z Γ cc own nL ret) (d : decode cc pc = .ok (.ifnonnull off, 3)) (ht : (pc : Int) + off = (tgt : Int)) (kk : GJ Z Γ h k n tgt lv st) : GJ Z Γ h k n pc lv (.ref x :: st) := fun H locs ls hw hS hl => lv_ifnonnull X.exec X.bytes d ht (kk H locs ls hw hS hl)
theorem g_ifnonnullN {off : Int} (X : gOK Z Γ cc own nL ret) (d : decode cc pc = .ok (.ifnonnull off, 3)) (kk : GJ Z Γ h k n (pc + 3) lv st) : GJ Z Γ h k n pc lv (.null :: st) := fun H locs ls hw hS hl => lv_ifnonnullN X.exec X.bytes d (kk H locs ls hw hS hl)
theorem g_acmp_eq {x y : Nat} {off : Int} (tgt : Nat) (X : gOK Z Γ cc own nL ret) (d : decode cc pc = .ok (.if_acmp .eq off, 3)) (ht : (pc : Int) + off = (tgt : Int)) (kt : x = y → GJ Z Γ h k n tgt lv st) (kf : ¬ x = y → GJ Z Γ h k n (pc + 3) lv st) : GJ Z Γ h k n pc lv (.ref y :: .ref x :: st) := fun H locs ls hw hS hl => lv_acmp_eq (rx := some x) (ry := some y) X.exec X.bytes d ht (fun c => kt (Option.some.inj c) H locs ls hw hS hl) (fun c => kf (fun e => c (congrArg some e)) H locs ls hw hS hl)
theorem g_acmp_ne {x y : Nat} {off : Int} (tgt : Nat) (X : gOK Z Γ cc own nL ret) (d : decode cc pc = .ok (.if_acmp .ne off, 3)) (ht : (pc : Int) + off = (tgt : Int)) (kt : ¬ x = y → GJ Z Γ h k n tgt lv st) (kf : x = y → GJ Z Γ h k n (pc + 3) lv st) : GJ Z Γ h k n pc lv (.ref y :: .ref x :: st) := fun H locs ls hw hS hl => lv_acmp_ne (rx := some x) (ry := some y) X.exec X.bytes d ht (fun c => kt (fun e => c (congrArg some e)) H locs ls hw hS hl) (fun c => kf (Option.some.inj c) H locs ls hw hS hl)
/-- null against an object, an object against null: not the same -/
theorem g_acmp_eqN {y : Nat} {off : Int} (X : gOK Z Γ cc own nL ret) (d : decode cc pc = .ok (.if_acmp .eq off, 3)) (tgt : Nat) (ht : (pc : Int) + off = (tgt : Int)) (kf : GJ Z Γ h k n (pc + 3) lv st) : GJ Z Γ h k n pc lv (.ref y :: .null :: st) := fun H locs ls hw hS hl => lv_acmp_eq (rx := none) (ry := some y) X.exec X.bytes d ht (fun c => by cases c) (fun _ => kf H locs ls hw hS hl)
theorem g_acmp_neN {y : Nat} {off : Int} (tgt : Nat) (X : gOK Z Γ cc own nL ret) (d : decode cc pc = .ok (.if_acmp .ne off, 3)) (ht : (pc : Int) + off = (tgt : Int)) (kt : GJ Z Γ h k n tgt lv st) : GJ Z Γ h k n pc lv (.ref y :: .null :: st) := fun H locs ls hw hS hl => lv_acmp_ne (rx := none) (ry := some y) X.exec X.bytes d ht (fun _ => kt H locs ls hw hS hl) (fun c => by cases c)
theorem g_tableOut {dflt lo hi : Int} {offs : Array Int} {len : Nat} {x : Int32} (tgt : Nat) (X : gOK Z Γ cc own nL ret) (d : decode cc pc = .ok (.tableswitch dflt lo hi offs, len)) (hx : x.toInt < lo ∨ hi < x.toInt) (ht : (pc : Int) + dflt = (tgt : Int)) (kk : GJ Z Γ h k n tgt lv st) : GJ Z Γ h k n pc lv (.int x :: st) := fun H locs ls hw hS hl => lv_tableOut X.exec X.bytes d hx ht (kk H locs ls hw hS hl)
theorem g_tableIn {dflt lo hi : Int} {offs : Array Int} {len : Nat} {x : Int32} {off : Int} (tgt : Nat) (X : gOK Z Γ cc own nL ret) (d : decode cc pc = .ok (.tableswitch dflt lo hi offs, len)) (h1 : ¬ x.toInt < lo) (h2 : ¬ hi < x.toInt) (ho : offs[(x.toInt - lo).toNat]? = some off) (ht : (pc : Int) + off = (tgt : Int)) (kk : GJ Z Γ h k n tgt lv st) : GJ Z Γ h k n pc lv (.int x :: st) := fun H locs ls hw hS hl => lv_tableIn X.exec X.bytes d h1 h2 ho ht (kk H locs ls hw hS hl)
theorem g_lcmp {x y : Int64} (X : gOK Z Γ cc own nL ret) (d : decode cc pc = .ok (.lcmp, 1)) (kk : ∀ z : Int32, z = lg_cmp x y → GJ Z Γ h k n (pc + 1) lv (.int z :: st)) : GJ Z Γ h k n pc lv (.long y :: .long x :: st) := fun H locs ls hw hS hl => W.lcmp X.exec X.bytes d (kk _ rfl H locs ls hw hS hl)
end GROWS
end
section
/-! rows of GJ over the heap: fields, arrays, new, ends, calls, throws -/
section GHEAP
variable {Z : gEnv} {Γ : gCtx} {cc : ByteArray} {own : String} {nL : Nat} {ret : Option FieldType} {h : gH} {k n pc : Nat} {lv lv' : List (Nat × Value)} {st : List Value}
/-- what is known of a class of ours: its place, its fields -/
def gCls (ci : Nat) (C : String) (T : u_T) (ty : Nat → FieldType) (N : Nat) : Prop :=
  vwCl[ci]? = some (C, T, N) ∧ (∀ w ∈ u_ws C T N, w ∈ gT) ∧ (∀ k, k < N → parseFieldDescriptor (T k).2.2.1 = some (ty k)) ∧ (∀ a, a < N → ∀ b, b < N → a ≠ b → (T a).2.1 ≠ (T b).2.1) ∧ Cond.instantiable C N ∈ gT ∧ Cond.initialized C ∈ gT
theorem g_get {ci j N index a : Nat} {C : String} {T : u_T} {ty : Nat → FieldType} {fs : List Value} {v : Value} (X : gOK Z Γ cc own nL ret) (K : gCls ci C T ty N) (hlk : Cond.fieldLink own index C (T j).2.1 (T j).2.2.1 ∈ gT) (hT : (T j).1 = C) (hj : j < N)
    (ha : h a = some (.inr (ci, fs))) (hv : fs[j]? = some v) (d : decode cc pc = .ok (.getfield index, 3)) (kk : GJ Z Γ h k n (pc + 3) lv (v :: st)) : GJ Z Γ h k n pc lv (.ref a :: st) := fun H locs ls hw hS hl =>
  va_get X.exec X.bytes X.wds K.2.1 X.ow X.K (hw.one ha) 0 rfl K.1 j hj (X.wd hlk) (fun x hx => by rw [hT] at hx; exact hx) hv d (kk H locs ls hw hS hl)
theorem g_put {ci j N index a : Nat} {C : String} {T : u_T} {ty : Nat → FieldType} {fs : List Value} {v : Value} (X : gOK Z Γ cc own nL ret) (K : gCls ci C T ty N) (hlk : Cond.fieldLink own index C (T j).2.1 (T j).2.2.1 ∈ gT) (hT : (T j).1 = C) (hj : j < N)
    (ha : h a = some (.inr (ci, fs))) (hfin : (T j).2.2.2 = false) (hn : narrow (ty j) v = v) (hfit : fits (ty j) v = true) (hlen : j < fs.length) (d : decode cc pc = .ok (.putfield index, 3))
    (kk : GJ Z Γ (va_up h a (some (.inr (ci, fs.set j v)))) k n (pc + 3) lv st) : GJ Z Γ h k n pc lv (v :: .ref a :: st) := by
  intro H locs ls hw hS hl
  have hts := X.wds
  have hap := va_apart (own := own) hts K.2.1 ty K.2.2.1 K.2.2.2.1 X.K K.1
  obtain ⟨r, h1, cell, q1, q2, q3, q4⟩ := (hw a _ ha).1
  have hr : r = (C, T, N) := Option.some.inj (h1.symm.trans K.1)
  subst hr
  obtain ⟨hSl, hfc, kC, hkC, hkind⟩ := X.K.1 ci _ K.1
  obtain ⟨cf, kf, fi, f, hi, hsl⟩ := hSl j hj
  have hlay := hts _ (K.2.1 _ (u_in_lay hj))
  unfold u_lay at hlay
  rw [if_neg (by rw [hfin]; decide)] at hlay
  have hst := (u_facts hfc hkC (u_lays hts K.2.1 hj) hi).1
  have h6 := u_store hfc hkC hkind hlay hi (K.2.2.1 j hj) hn hfit
  refine W.putK X.exec X.bytes (f := f) ⟨X.ow, X.wd hlk, ⟨_, _, _, by rw [← hT]; exact hi⟩, hst⟩ (by rw [q2]; exact h6) q1 q3 (by rw [hsl]; exact k2_hasslot (q4 j hj)) rfl rfl d fun H' e1 e2 e3 => ?_
  rw [hsl] at e1
  exact kk H' _ ls (hw.put ha ⟨_, h1, t_OB.to (V := updV (vp_V fs) j v) ⟨_, e1, q2, q3, t_set q4 hap hj v⟩ (fun i _ => vp_updV_set hlen v i)⟩ e3) (hS.put e2 e3 (hw a _ ha).2) hl
theorem g_putF {ci j N index a : Nat} {C : String} {T : u_T} {ty : Nat → FieldType} {fs : List Value} {v : Value} (X : gOK Z Γ cc own nL ret) (K : gCls ci C T ty N) (hlk : Cond.fieldLink own index C (T j).2.1 (T j).2.2.1 ∈ gT) (hT : (T j).1 = C) (hj : j < N)
    (ha : h a = some (.inr (ci, fs))) (hfin : (T j).2.2.2 = true) (hin : Γ.2.2.2.2.2.2.2.1.name = "<init>") (hown : C = own) (hn : narrow (ty j) v = v) (hfit : fits (ty j) v = true) (hlen : j < fs.length) (d : decode cc pc = .ok (.putfield index, 3))
    (kk : GJ Z Γ (va_up h a (some (.inr (ci, fs.set j v)))) k n (pc + 3) lv st) : GJ Z Γ h k n pc lv (v :: .ref a :: st) := by
  intro H locs ls hw hS hl
  have hts := X.wds
  have hap := va_apart (own := own) hts K.2.1 ty K.2.2.1 K.2.2.2.1 X.K K.1
  obtain ⟨r, h1, cell, q1, q2, q3, q4⟩ := (hw a _ ha).1
  have hr : r = (C, T, N) := Option.some.inj (h1.symm.trans K.1)
  subst hr
  obtain ⟨hSl, hfc, kC, hkC, hkind⟩ := X.K.1 ci _ K.1
  obtain ⟨cf, kf, fi, f, hi, hsl⟩ := hSl j hj
  have hlay := hts _ (K.2.1 _ (u_in_lay hj))
  unfold u_lay at hlay
  rw [if_pos hfin] at hlay
  have hst := (u_facts hfc hkC (u_lays hts K.2.1 hj) hi).1
  have hcf : Γ.2.2.2.2.1.cls = cf := by
    obtain ⟨_, _, c', _, _, _, -, -, hf', -, -, -, hown2, -⟩ := Cond.laysFinal_spec hlay
    have e1 : c' = cf := by have := hi.symm.trans hf'; simp at this; exact this.1.symm
    rw [hT, hown] at hown2
    rw [← e1]; exact Option.some.inj (X.ow.symm.trans hown2)
  have h6 := u_fits hfc hkC hkind (Or.inr hlay) hi (K.2.2.1 j hj) hn hfit
  refine W.putFinK X.exec X.bytes X.ow (X.wd hlk) (by rw [← hT]; exact hi) hst hcf hin (by rw [q2]; exact h6) q1 q3 (by rw [hsl]; exact k2_hasslot (q4 j hj)) rfl rfl d fun H' e1 e2 e3 => ?_
  rw [hsl] at e1
  exact kk H' _ ls (hw.put ha ⟨_, h1, t_OB.to (V := updV (vp_V fs) j v) ⟨_, e1, q2, q3, t_set q4 hap hj v⟩ (fun i _ => vp_updV_set hlen v i)⟩ e3) (hS.put e2 e3 (hw a _ ha).2) hl
/-- an array's class is one of ours -/
def gTy (Z : gEnv) (t : Nat) (ty : FieldType) : Prop := Z.2.1[t]? = some (Z.2.2.2.1 t, ty)
theorem g_alen {a t : Nat} {ty : FieldType} {x : vp_A} {v : Int32} (X : gOK Z Γ cc own nL ret) (ht : gTy Z t ty) (ha : h a = some (.inl (Z.2.2.2.1 t, x))) (hv : Int32.ofNat x.1 = v) (d : decode cc pc = .ok (.arraylength, 1)) (kk : GJ Z Γ h k n (pc + 1) lv (.int v :: st)) : GJ Z Γ h k n pc lv (.ref a :: st) := fun H locs ls hw hS hl =>
  va_alen X.exec X.bytes X.K (hw.one ha) 0 t rfl ht hv d (kk H locs ls hw hS hl)
theorem g_iald {a t m : Nat} {f : Nat → Int32} {i : Int32} (X : gOK Z Γ cc own nL ret) (ht : gTy Z t .int) (ha : h a = some (.inl (Z.2.2.2.1 t, m, .inl f))) (hin : vp_in i m) (d : decode cc pc = .ok (.iaload, 1)) (kk : ∀ z : Int32, z = f i.toNatClampNeg → GJ Z Γ h k n (pc + 1) lv (.int z :: st)) : GJ Z Γ h k n pc lv (.int i :: .ref a :: st) := fun H locs ls hw hS hl =>
  va_iald X.exec X.bytes X.K (hw.one ha) 0 t rfl ht hin d (kk _ rfl H locs ls hw hS hl)
theorem g_iast {a t m : Nat} {f : Nat → Int32} {i x : Int32} (X : gOK Z Γ cc own nL ret) (ht : gTy Z t .int) (ha : h a = some (.inl (Z.2.2.2.1 t, m, .inl f))) (hin : vp_in i m) (d : decode cc pc = .ok (.iastore, 1)) (kk : GJ Z Γ (va_up h a (some (.inl (Z.2.2.2.1 t, m, .inl (upd f i.toNatClampNeg x))))) k n (pc + 1) lv st) : GJ Z Γ h k n pc lv (.int x :: .int i :: .ref a :: st) := by
  intro H locs ls hw hS hl
  refine W.iast X.exec X.bytes (hw a _ ha).1 ((X.K.2 t _ ht).1 m (fun j => .int (f j))) (fun q => by cases q) (by show ¬ (i < 0 ∨ (arrV _ _ _).slots.size ≤ _); rw [arrV_size]; exact hin) rfl rfl d fun H1 e z oq => ?_
  refine kk H1 _ ls (hw.put ha ?_ oq) (hS.put z oq (hw a _ ha).2) hl
  show H1[a]? = some (vp_cell _ _)
  rw [e]
  rw [vp_cell_i, vp_cell_i, arrV_store]
  congr 2
  funext q
  by_cases hq : q = i.toNatClampNeg
  · subst hq
    simp [updV, upd]
  · simp [updV, upd, hq]
theorem g_aald {a t m : Nat} {C : String} {f : Nat → Option Nat} {i : Int32} (X : gOK Z Γ cc own nL ret) (ht : gTy Z t (.object C)) (ha : h a = some (.inl (Z.2.2.2.1 t, m, .inr (.inr (.inr (.inr f)))))) (hin : vp_in i m) (d : decode cc pc = .ok (.aaload, 1)) (kk : GJ Z Γ h k n (pc + 1) lv (va_rf (f i.toNatClampNeg) :: st)) : GJ Z Γ h k n pc lv (.int i :: .ref a :: st) := fun H locs ls hw hS hl =>
  va_aldq X.exec X.bytes X.K (hw.one ha) 0 t rfl ht hin d (kk H locs ls hw hS hl)
theorem g_aast {a t m v ci N : Nat} {C : String} {T : u_T} {ty : Nat → FieldType} {f : Nat → Option Nat} {fs : List Value} {i : Int32} (X : gOK Z Γ cc own nL ret) (K : gCls ci C T ty N) (ht : gTy Z t (.object C)) (ha : h a = some (.inl (Z.2.2.2.1 t, m, .inr (.inr (.inr (.inr f)))))) (hvv : h v = some (.inr (ci, fs))) (hin : vp_in i m) (d : decode cc pc = .ok (.aastore, 1))
    (kk : GJ Z Γ (va_up h a (some (.inl (Z.2.2.2.1 t, m, .inr (.inr (.inr (.inr (va_up f i.toNatClampNeg (some v))))))))) k n (pc + 1) lv st) : GJ Z Γ h k n pc lv (.ref v :: .int i :: .ref a :: st) := by
  intro H locs ls hw hS hl
  have hlt : i.toNatClampNeg < m := Nat.not_le.mp fun q => hin (Or.inr q)
  have h0 : ¬ i < 0 := fun q => hin (Or.inl q)
  obtain ⟨r', hr', cellV, g1, g2, g3, -⟩ := (hw v _ hvv).1
  have hcls := (X.K.1 ci _ K.1).2
  obtain ⟨kA, comp, k1, k2, k3, -⟩ := (X.K.2 t _ ht).2
  have hcomp : comp = Z.1.1 ci := Option.some.inj (k3.symm.trans hcls.1)
  subst hcomp
  obtain ⟨kC, hkC, -⟩ := hcls.2
  refine W.aast X.exec X.bytes (hw a _ ha).1 (fun q h => by cases h) (fun h => by cases h) k1 k2 rfl hkC ⟨h0, by show _ < (arrV _ _ _).slots.size; rw [arrV_size]; exact hlt⟩ g1 (fun q h => by rw [g3] at h; cases h) (by rw [g2]; exact hkC) (by rw [g2]; exact va_assign hcls) rfl rfl d fun H1 e z oq => ?_
  refine kk H1 _ ls (hw.put ha ?_ oq) (hS.put z oq (hw a _ ha).2) hl
  show H1[a]? = some (vp_cell _ _)
  rw [e]
  rw [vp_cell_q, vp_cell_q, arrV_store]
  congr 2
  funext q
  by_cases hq : q = i.toNatClampNeg
  · subst hq
    simp [updV, va_up, va_rf]
  · simp [updV, va_up, hq]
theorem g_aastN {a t m : Nat} {C : String} {f : Nat → Option Nat} {i : Int32} (X : gOK Z Γ cc own nL ret) (ht : gTy Z t (.object C)) (ha : h a = some (.inl (Z.2.2.2.1 t, m, .inr (.inr (.inr (.inr f)))))) (hin : vp_in i m) (d : decode cc pc = .ok (.aastore, 1))
    (kk : GJ Z Γ (va_up h a (some (.inl (Z.2.2.2.1 t, m, .inr (.inr (.inr (.inr (va_up f i.toNatClampNeg none)))))))) k n (pc + 1) lv st) : GJ Z Γ h k n pc lv (.null :: .int i :: .ref a :: st) := by
  intro H locs ls hw hS hl
  refine va_WaastN (C := C) X.exec X.bytes (hw a _ ha).1 ((X.K.2 t _ ht).1 m (fun j => va_rf (f j))) (fun h => by cases h) (by show ¬ (i < 0 ∨ (arrV _ _ _).slots.size ≤ _); rw [arrV_size]; exact hin) rfl rfl d fun H1 e z oq => ?_
  refine kk H1 _ ls (hw.put ha ?_ oq) (hS.put z oq (hw a _ ha).2) hl
  show H1[a]? = some (vp_cell _ _)
  rw [e]
  rw [vp_cell_q, vp_cell_q, arrV_store]
  congr 2
  funext q
  by_cases hq : q = i.toNatClampNeg
  · subst hq
    simp [updV, va_up, va_rf]
  · simp [updV, va_up, hq]
/-- the addresses of the abstract heap lie in the heap: a new one is none of them -/
def gNew (h : gH) (q : Nat) : Prop := ∀ a x, h a = some x → a < q
theorem gNew.ne {h : gH} {q a : Nat} {x : va_E} (hq : gNew h q) (ha : h a = some x) : a ≠ q := Nat.ne_of_lt (hq a x ha)
theorem g_new {ci N index : Nat} {C : String} {T : u_T} {ty : Nat → FieldType} (fs : List Value) (X : gOK Z Γ cc own nL ret) (K : gCls ci C T ty N) (hlk : Cond.classLink own index C ∈ gT) (hfs : ∀ j, j < N → defaultValue (ty j) = vp_V fs j) (hc : k + 1 ≤ Γ.2.2.1.cells) (hs : n + N ≤ Γ.2.2.1.slots) (d : decode cc pc = .ok (.new index, 3))
    (kk : ∀ q : Nat, gNew h q → Z.2.2.1 ≤ q → GJ Z Γ (va_up h q (some (.inr (ci, fs)))) (k + 1) (n + N) (pc + 3) lv (.ref q :: st)) : GJ Z Γ h k n pc lv st := by
  intro H locs ls hw hS hl
  have hz : Z.2.2.1 ≤ H.size := Nat.le_trans X.base hS.1
  have hKn := X.K.1 ci _ K.1
  refine W.newcK (c := Γ.2.2.2.2.2.2.2.2.1) X.exec X.bytes X.ow (X.wd hlk) (X.wd K.2.2.2.2.1) (X.wd K.2.2.2.2.2) rfl d hc hs hKn.2.1 rfl fun H1 kC hkC e1 z1 o1 => ?_
  exact kk H.size (fun a x ha => hw.lt ha) hz H1 locs ls (hw.push hz ⟨_, K.1, (u_born ty X.wds K.2.1 hKn hkC e1 K.2.2.1).to hfs⟩ o1) ⟨Nat.le_trans hS.1 (by omega), fun x h1 h2 => (o1 x (Nat.lt_of_lt_of_le h1 hS.1)).trans (hS.2.1 x h1 h2), hS.2.2⟩ hl
theorem g_newi {t N : Nat} {x : Int32} (X : gOK Z Γ cc own nL ret) (ht : gTy Z t .int) (harr : Cond.arrayClass .int ∈ gT) (hx : ¬ x < 0) (hN : x.toNatClampNeg = N) (hb : N * 4 ≤ 536870912) (hc : k + 1 ≤ Γ.2.2.1.cells) (hs : n + N ≤ Γ.2.2.1.slots) (d : decode cc pc = .ok (.newarray .int, 2))
    (kk : ∀ q : Nat, gNew h q → Z.2.2.1 ≤ q → GJ Z Γ (va_up h q (some (.inl (Z.2.2.2.1 t, N, .inl (fun _ => 0))))) (k + 1) (n + N) (pc + 2) lv (.ref q :: st)) : GJ Z Γ h k n pc lv (.int x :: st) := by
  intro H locs ls hw hS hl
  have hz : Z.2.2.1 ≤ H.size := Nat.le_trans X.base hS.1
  refine va_newaK (atype := .int) X.exec X.bytes (X.wd harr) rfl d rfl hx hN hb hc hs rfl fun H1 cA e1 z1 o1 hAr hNm => ?_
  have h9 : Γ.2.2.2.1.vm.findClass ("[" ++ (FieldType.int).toString) = some (Z.2.2.2.1 t) := (X.K.2 t _ ht).2
  have h8 : Γ.2.2.2.1.vm.findClass ("[" ++ (FieldType.int).toString) = some cA := hNm
  have hcA : cA = Z.2.2.2.1 t := Option.some.inj (h8.symm.trans h9)
  subst hcA
  refine kk H.size (fun a y ha => hw.lt ha) hz H1 locs ls (hw.push hz ?_ o1) ⟨Nat.le_trans hS.1 (by omega), fun y h1 h2 => (o1 y (Nat.lt_of_lt_of_le h1 hS.1)).trans (hS.2.1 y h1 h2), hS.2.2⟩ hl
  show H1[H.size]? = some (vp_cell _ _)
  rw [vp_cell_i]
  exact e1
theorem g_newq {t N index : Nat} {C : String} {x : Int32} (X : gOK Z Γ cc own nL ret) (ht : gTy Z t (.object C)) (harr : Cond.arrayOver (.object C) ∈ tables_1) (hover : va_AO C Γ.2.2.2.1) (hlk : Cond.classLink own index C ∈ gT) (hx : ¬ x < 0) (hN : x.toNatClampNeg = N) (hb : N * 4 ≤ 536870912) (hc : k + 1 ≤ Γ.2.2.1.cells) (hs : n + N ≤ Γ.2.2.1.slots) (d : decode cc pc = .ok (.anewarray index, 3))
    (kk : ∀ q : Nat, gNew h q → Z.2.2.1 ≤ q → GJ Z Γ (va_up h q (some (.inl (Z.2.2.2.1 t, N, .inr (.inr (.inr (.inr (fun _ => none)))))))) (k + 1) (n + N) (pc + 3) lv (.ref q :: st)) : GJ Z Γ h k n pc lv (.int x :: st) := by
  intro H locs ls hw hS hl
  have hz : Z.2.2.1 ≤ H.size := Nat.le_trans X.base hS.1
  subst hN
  refine W.anew X.exec X.bytes X.ow (X.wd hlk) (va_AO.use hover) rfl d rfl hx hb hc hs fun cA kA comp f1 f2 f3 f4 => ?_
  generalize hH1 : H.push ({ cls := cA, slots := Array.replicate x.toNatClampNeg .null, vm := .none } : Cell) = H1
  have z1 : H1.size = H.size + 1 := by rw [← hH1, Array.size_push]
  have e1 : H1[H.size]? = some (arrV cA x.toNatClampNeg (fun _ => .null)) := by rw [← hH1, Array.getElem?_push_size, ← arrV_new]
  have o1 : ∀ q : Nat, q < H.size → H1[q]? = H[q]? := fun q hq => by rw [← hH1, Array.getElem?_push, if_neg (Nat.ne_of_lt hq)]
  obtain ⟨kA2, comp2, g1, g2, g3, g4⟩ := (X.K.2 t _ ht).2
  have hcA : cA = Z.2.2.2.1 t := Option.some.inj (f1.symm.trans g4)
  subst hcA
  refine kk H.size (fun a y ha => hw.lt ha) hz H1 locs ls (hw.push hz ?_ o1) ⟨Nat.le_trans hS.1 (by omega), fun y h1 h2 => (o1 y (Nat.lt_of_lt_of_le h1 hS.1)).trans (hS.2.1 y h1 h2), hS.2.2⟩ hl
  show H1[H.size]? = some (vp_cell _ _)
  rw [vp_cell_q]
  exact e1
theorem g_objInit {idx a : Nat} (X : gOK Z Γ cc own nL ret) (hlk : Cond.methodLink own idx objectInit ∈ gT) (hin : Cond.instanceMethod objectInit ∈ gT) (hco : Cond.code objectInit ⟨#[0xb1]⟩ 1 none ∈ gT) (hf : 1 ≤ Γ.2.2.1.frames) (hlo : (st.map fun v => v.category).sum + 12 ≤ Γ.2.2.1.locals) (d : decode cc pc = .ok (.invokespecial idx, 3))
    (kk : GJ Z Γ h k n (pc + 3) lv st) : GJ Z Γ h k n pc lv (.ref a :: st) := by
  intro H locs ls hw hS hl
  refine W.objInit X.exec X.bytes X.ow (X.wd hlk) (X.wd hin) (X.wd hco) rfl (by rw [X.maxl]; exact hl.1.trans X.nl) rfl d hf ?_ (kk H locs ls hw hS hl)
  show 2 * JFrame.monitorRoom (F0 Γ.2.2.2.2.1 pc ls (.ref a :: st)) + _ + 12 ≤ _
  rw [show JFrame.monitorRoom (F0 Γ.2.2.2.2.1 pc ls (.ref a :: st)) = 0 from rfl]
  omega
/-! contracts -/
def gPc (Z : gEnv) (av : List Value) (h : gH) : Array Value → State → Prop := va_Pc av (fun U => gWd Z h U.heap ∧ va_K Z.1 vwCl Z.2.1 U ∧ gSt Z.2.2.1 U U.heap ∧ Z.2.2.1 ≤ U.heap.size)
def gQc (Z : gEnv) (Q : Option Value → gH → Prop) : Array Value → State → Outcome → State → Prop := fun _ st o t => (∃ (v : Option Value) (h' : gH), o = .returned v ∧ Q v h' ∧ gWd Z h' t.heap) ∧ va_F (gA Z) st t
def gXC (Z : gEnv) (QX : String → gH → Prop) : String → State → State → Prop := fun E st t => (∃ h' : gH, QX E h' ∧ gWd Z h' t.heap) ∧ va_F (gA Z) st t
abbrev gRm (d mc ms : Nat) : Room := { frames := d, cells := mc, slots := ms, locals := 50 * d }
def gMet (Z : gEnv) (y : MethodName) (cc : ByteArray) (nL : Nat) (ret : Option FieldType) (d mc ms : Nat) (av : List Value) (h : gH) (Q : Option Value → gH → Prop) (QX : String → gH → Prop) : Prop :=
  vx_Met Z.2.2.2.2 y (gWS y cc nL ret) (gRm d mc ms) (gPc Z av h) (gQc Z Q) (gXC Z QX) mc ms (gA Z)
/-- a constructor's: nothing is thrown -/
def gMetI (Z : gEnv) (y : MethodName) (cc : ByteArray) (nL : Nat) (d mc ms : Nat) (av : List Value) (h : gH) (Q : gH → Prop) : Prop :=
  Met Z.2.2.2.2 y (gWS y cc nL none) (gRm d mc ms) (gPc Z av h) (gQc Z (fun v h' => v = none ∧ Q h')) mc ms (gA Z)
theorem gPc_blind {av : List Value} : FrameBlind (gPc Z av h) := fun a U g mk q => ⟨q.1, q.2.1, va_K.moved (u := U) (U := U.calling g mk a) (Vm.Alike.refl U.vm) q.2.2.1, by
  obtain ⟨h1, h2, h3, h4, h5⟩ := q.2.2.2.1
  refine ⟨vx_Zq.moved (u := U) (U := U.calling g mk a) (Vm.Alike.refl U.vm) h1, vx_Zq.moved (u := U) (U := U.calling g mk a) (Vm.Alike.refl U.vm) h2, fun q hq => ?_, fun w hw => ?_, fun q hq => (h5 q hq).moved (U := U.calling g mk a) (Vm.Alike.refl U.vm)⟩
  · obtain ⟨x, hx⟩ := h3 q hq
    exact ⟨x, hx.same (U := U.calling g mk a) rfl⟩
  · exact va_tabs (by have := (List.mem_filter.mp hw).2; cases w <;> first | rfl | (exact absurd this (by simp [gSoft]))) (show U.vm = (U.calling g mk a).vm from rfl) (h4 w hw), q.2.2.2.2⟩
/-- what a method owes at its end -/
def gEnd (Z : gEnv) (Γ : gCtx) (mc ms : Nat) (Q : Option Value → gH → Prop) (QX : String → gH → Prop) : Prop := Γ.2.2.2.2.2.2.2.2.2.2 = vx_MQ Γ.2.2.2.2.2.2.1 (gQc Z Q) (gXC Z QX) Γ.2.2.2.2.2.1 Γ.2.2.2.1 mc ms (gA Z)
def gEndI (Z : gEnv) (Γ : gCtx) (mc ms : Nat) (Q : gH → Prop) : Prop := Γ.2.2.2.2.2.2.2.2.2.2 = MQ Γ.2.2.2.2.2.2.1 (gQc Z (fun v h' => v = none ∧ Q h')) Γ.2.2.2.2.2.1 Γ.2.2.2.1 mc ms (gA Z)
def gNoTab (Γ : gCtx) : Prop := ∀ x ∈ Γ.2.2.2.2.2.2.2.2.1.exceptionTable.toList, False
theorem g_enter {y : MethodName} {d mc ms : Nat} {av : List Value} {Q : Option Value → gH → Prop} {QX : String → gH → Prop} (hl : Z.2.2.2.2.stackTraces = false) (hy : plainName y.cls = true) (hn : (lg_sl av).length ≤ nL) (hlv : lv_args 0 av = lv)
    (body : ∀ Γ : gCtx, gOK Z Γ cc y.cls nL ret → gNoTab Γ → gEnd Z Γ mc ms Q QX → Γ.2.2.1 = gRm d mc ms → GJ Z Γ h 0 0 0 lv []) : gMet Z y cc nL ret d mc ms av h Q QX := by
  subst hlv
  refine vx_ofW hy rfl ?_
  intro p e s m args below meth c s₁ B hml htab hv
  obtain ⟨rfl, hw, hK, hst, hsz⟩ := hv
  have hts := atoms_spec (ws := gWS y cc nL ret) B.pre
  have hl0 := lv_entry av (n := nL) hn
  rw [lg_entry_eq]
  have X : gOK Z (p, e, gRm d mc ms, s, m, av.toArray, below, meth, c, nL, vx_MQ below (gQc Z Q) (gXC Z QX) av.toArray s mc ms (gA Z)) cc y.cls nL ret := ⟨B.exec, B.bytes, hml, rfl, findClass_of_methodNamed B.named, fun w hw => hts w (List.mem_cons_of_mem _ hw), B.notSynchronized, B.returns, hl, hK, hst, hsz⟩
  exact body (p, e, gRm d mc ms, s, m, av.toArray, below, meth, c, nL, vx_MQ below (gQc Z Q) (gXC Z QX) av.toArray s mc ms (gA Z)) X htab rfl rfl s.heap [] _ hw va_S.rf hl0
theorem g_enterI {y : MethodName} {d mc ms : Nat} {av : List Value} {Q : gH → Prop} (hl : Z.2.2.2.2.stackTraces = false) (hy : plainName y.cls = true) (hy2 : y.name = "<init>") (hn : (lg_sl av).length ≤ nL) (hlv : lv_args 0 av = lv)
    (body : ∀ Γ : gCtx, gOK Z Γ cc y.cls nL none → Γ.2.2.2.2.2.2.2.1.name = "<init>" → gEndI Z Γ mc ms Q → Γ.2.2.1 = gRm d mc ms → GJ Z Γ h 0 0 0 lv []) : gMetI Z y cc nL d mc ms av h Q := by
  subst hlv
  refine Met.ofW hy rfl ?_
  intro p e s m args below meth c s₁ B hml hv
  obtain ⟨rfl, hw, hK, hst, hsz⟩ := hv
  have hts := atoms_spec (ws := gWS y cc nL none) B.pre
  have hl0 := lv_entry av (n := nL) hn
  rw [lg_entry_eq]
  have hin : meth.name = "<init>" := (name_of_methodNamed B.named B.method).1.trans hy2
  have X : gOK Z (p, e, gRm d mc ms, s, m, av.toArray, below, meth, c, nL, MQ below (gQc Z (fun v h' => v = none ∧ Q h')) av.toArray s mc ms (gA Z)) cc y.cls nL none := ⟨B.exec, B.bytes, hml, rfl, findClass_of_methodNamed B.named, fun w hw => hts w (List.mem_cons_of_mem _ hw), B.notSynchronized, B.returns, hl, hK, hst, hsz⟩
  exact body (p, e, gRm d mc ms, s, m, av.toArray, below, meth, c, nL, MQ below (gQc Z (fun v h' => v = none ∧ Q h')) av.toArray s mc ms (gA Z)) X hin rfl rfl s.heap [] _ hw va_S.rf hl0
/-! ends -/
theorem g_ireturn {mc ms : Nat} {Q : Option Value → gH → Prop} {QX : String → gH → Prop} {ty : FieldType} {v : Int32} (X : gOK Z Γ cc own nL (some ty)) (E : gEnd Z Γ mc ms Q QX) (hn : narrow ty (.int v) = .int v) (d : decode cc pc = .ok (.ireturn, 1)) (h1 : k ≤ mc) (h2 : n ≤ ms) (hq : Q (some (.int v)) h) : GJ Z Γ h k n pc lv [.int v] := by
  intro H locs ls hw hS hl
  unfold gW
  rw [E]
  exact vx_ret (W.widen h1 h2 (W.zret X.exec X.bytes X.rt hn (fun t ht _ => ⟨⟨_, h, rfl, hq, by rw [ht]; exact hw⟩, hS.F ht⟩) hS.2.2 d (hlocks := X.locks)))
theorem g_lreturn {mc ms : Nat} {Q : Option Value → gH → Prop} {QX : String → gH → Prop} {v : Int64} (X : gOK Z Γ cc own nL (some .long)) (E : gEnd Z Γ mc ms Q QX) (d : decode cc pc = .ok (.lreturn, 1)) (h1 : k ≤ mc) (h2 : n ≤ ms) (hq : Q (some (.long v)) h) : GJ Z Γ h k n pc lv [.long v] := by
  intro H locs ls hw hS hl
  unfold gW
  rw [E]
  exact vx_ret (W.widen h1 h2 (W.lret X.exec X.bytes X.rt (fun t ht _ => ⟨⟨_, h, rfl, hq, by rw [ht]; exact hw⟩, hS.F ht⟩) hS.2.2 d (hlocks := X.locks)))
theorem g_return {mc ms : Nat} {Q : Option Value → gH → Prop} {QX : String → gH → Prop} (X : gOK Z Γ cc own nL none) (E : gEnd Z Γ mc ms Q QX) (d : decode cc pc = .ok (.return_, 1)) (h1 : k ≤ mc) (h2 : n ≤ ms) (hq : Q none h) : GJ Z Γ h k n pc lv [] := by
  intro H locs ls hw hS hl
  unfold gW
  rw [E]
  exact vx_ret (W.widen h1 h2 (W.vret X.exec X.bytes X.rt (fun t ht _ => ⟨⟨_, h, rfl, hq, by rw [ht]; exact hw⟩, hS.F ht⟩) hS.2.2 d (hlocks := X.locks)))
theorem g_returnI {mc ms : Nat} {Q : gH → Prop} (X : gOK Z Γ cc own nL none) (E : gEndI Z Γ mc ms Q) (d : decode cc pc = .ok (.return_, 1)) (h1 : k ≤ mc) (h2 : n ≤ ms) (hq : Q h) : GJ Z Γ h k n pc lv [] := by
  intro H locs ls hw hS hl
  unfold gW
  rw [E]
  exact W.widen h1 h2 (W.vret X.exec X.bytes X.rt (fun t ht _ => ⟨⟨_, h, rfl, ⟨rfl, hq⟩, by rw [ht]; exact hw⟩, hS.F ht⟩) hS.2.2 d (hlocks := X.locks))
theorem g_areturn {mc ms : Nat} {Q : Option Value → gH → Prop} {QX : String → gH → Prop} {C : String} {v : Value} (X : gOK Z Γ cc own nL (some (.object C))) (E : gEnd Z Γ mc ms Q QX) (hv : v = .null ∨ ∃ a, v = .ref a) (d : decode cc pc = .ok (.areturn, 1)) (h1 : k ≤ mc) (h2 : n ≤ ms) (hq : Q (some v) h) : GJ Z Γ h k n pc lv [v] := by
  intro H locs ls hw hS hl
  unfold gW
  rw [E]
  exact vx_ret (W.widen h1 h2 (W.aret X.exec X.bytes X.rt (Or.inl ⟨C, rfl⟩) hv (fun t ht _ => ⟨⟨_, h, rfl, hq, by rw [ht]; exact hw⟩, hS.F ht⟩) hS.2.2 d (hlocks := X.locks)))
/-- an exception goes on to the caller -/
theorem g_out {mc ms : Nat} {Q : Option Value → gH → Prop} {QX : String → gH → Prop} {E0 : String} (X : gOK Z Γ cc own nL ret) (N : gNoTab Γ) (E : gEnd Z Γ mc ms Q QX) (h1 : k ≤ mc) (h2 : n ≤ ms) (hq : QX E0 h) : GX Z Γ h k n pc lv st E0 := by
  intro H locs ls q ce hw hS hl hc1 hc2 hc3
  rw [E]
  exact vx_out (fun x hx => (N x hx).elim) X.locks hc1 hc2 hc3 (fun t ht _ => ⟨⟨h, hq, by rw [ht]; exact hw⟩, hS.F ht⟩) hS.2.2 h1 h2
end GHEAP
end
section
/-! calls and throws of GJ -/
section GCALLS
variable {Z : gEnv} {Γ : gCtx} {cc : ByteArray} {own : String} {nL : Nat} {ret : Option FieldType} {h : gH} {k n pc : Nat} {lv lv' : List (Nat × Value)} {st : List Value}
theorem g_back {As' : Array Value} {mc ms : Nat} {rest : List Value} {Q : Option Value → gH → Prop} {QX : String → gH → Prop}
    (hr : ∀ (H : Heap) (locs : List Loc) (ls : Array Slot), gWd Z h H → va_S (gA Z) Γ.2.2.2.1.heap H locs → lv_has ls Γ.2.2.2.2.2.2.2.2.2.1 lv → vx_Run Γ.1 Z.2.2.2.2 Γ.2.1 Γ.2.2.1 Γ.2.2.2.1 Γ.2.2.2.2.1 Γ.2.2.2.2.2.1 Γ.2.2.2.2.2.2.1 Γ.2.2.2.2.2.2.2.1 Γ.2.2.2.2.2.2.2.2.1 H locs k n mc ms (F0 Γ.2.2.2.2.1 pc ls st) rest ((gQc Z Q) As') (gXC Z QX) (gA Z))
    (kk : ∀ (v : Option Value) (h' : gH), Q v h' → GJ Z Γ h' (k + mc) (n + ms) (pc + 3) lv (v.toList ++ rest)) (kx : ∀ (E : String) (h' : gH), QX E h' → GX Z Γ h' (k + mc) (n + ms) pc lv rest E) : GJ Z Γ h k n pc lv st := by
  intro H locs ls hw hS hl T hT XX
  rcases hr H locs ls hw hS hl T hT XX with ⟨v, st₀, t, T', L, h0, X', hL, e1, e2, ⟨⟨v2, h', hv, hq, hw'⟩, hz, hk⟩, stp⟩ | ⟨q, st₀, t, T', L, E, ce, h0, X', hL, e1, e2, ⟨⟨h', hq, hw'⟩, hz, hk⟩, hce, hcv, hcl, stp⟩
  · cases hv
    rw [h0] at hz hk
    obtain ⟨t2, a1, b1⟩ := kk v h' hq T'.heap (locs ++ L) ls (by rw [e1]; exact hw') ⟨Nat.le_trans hS.1 (by rw [e1]; exact hz), fun q h1 h2 => by rw [e1, hk q (Nat.lt_of_lt_of_le h1 hS.1) h2]; exact hS.2.1 q h1 h2, fun q hq => by
      rcases List.mem_append.mp hq with h | h
      · exact hS.2.2 q h
      · exact hL q h⟩ hl T' rfl X'
    exact ⟨t2, stp t2 a1, b1⟩
  · rw [h0] at hz hk
    obtain ⟨t2, a1, b1⟩ := kx E h' hq T'.heap (locs ++ L) ls q ce (by rw [e1]; exact hw') ⟨Nat.le_trans hS.1 (by rw [e1]; exact hz), fun q h1 h2 => by rw [e1, hk q (Nat.lt_of_lt_of_le h1 hS.1) h2]; exact hS.2.1 q h1 h2, fun q hq => by
      rcases List.mem_append.mp hq with h | h
      · exact hS.2.2 q h
      · exact hL q h⟩ hl (by rw [e1]; exact hce) hcv hcl T' rfl X'
    exact ⟨t2, stp.trans a1, b1⟩
theorem g_backI {As' : Array Value} {mc ms : Nat} {rest : List Value} {Q : Option Value → gH → Prop}
    (hr : ∀ (H : Heap) (locs : List Loc) (ls : Array Slot), gWd Z h H → va_S (gA Z) Γ.2.2.2.1.heap H locs → lv_has ls Γ.2.2.2.2.2.2.2.2.2.1 lv → va_Run Γ.1 Z.2.2.2.2 Γ.2.1 Γ.2.2.1 Γ.2.2.2.1 Γ.2.2.2.2.1 Γ.2.2.2.2.2.1 Γ.2.2.2.2.2.2.1 Γ.2.2.2.2.2.2.2.1 Γ.2.2.2.2.2.2.2.2.1 H locs k n mc ms (F0 Γ.2.2.2.2.1 pc ls st) rest ((gQc Z Q) As') (gA Z))
    (kk : ∀ (v : Option Value) (h' : gH), Q v h' → GJ Z Γ h' (k + mc) (n + ms) (pc + 3) lv (v.toList ++ rest)) : GJ Z Γ h k n pc lv st := by
  intro H locs ls hw hS hl T hT XX
  obtain ⟨v, st₀, t, T', L, h0, X', hL, e1, e2, ⟨⟨v2, h', hv, hq, hw'⟩, hz, hk⟩, stp⟩ := hr H locs ls hw hS hl T hT XX
  cases hv
  rw [h0] at hz hk
  obtain ⟨t2, a1, b1⟩ := kk v h' hq T'.heap (locs ++ L) ls (by rw [e1]; exact hw') ⟨Nat.le_trans hS.1 (by rw [e1]; exact hz), fun q h1 h2 => by rw [e1, hk q (Nat.lt_of_lt_of_le h1 hS.1) h2]; exact hS.2.1 q h1 h2, fun q hq => by
      rcases List.mem_append.mp hq with h | h
      · exact hS.2.2 q h
      · exact hL q h⟩ hl T' rfl X'
  exact ⟨t2, stp t2 a1, b1⟩
theorem gPc_at {av : List Value} {H : Heap} {locs : List Loc} (X : gOK Z Γ cc own nL ret) (hw : gWd Z h H) (hS : va_S (gA Z) Γ.2.2.2.1.heap H locs) : ∀ U : State, U.heap = H → Γ.2.2.2.1.WarmedH U.vm → gPc Z av h av.toArray U := fun U hU hW =>
  ⟨rfl, by rw [hU]; exact hw, va_K.moved hW.alike X.K, by rw [hU]; exact gSt_warm hW hS X.stt, by rw [hU]; exact Nat.le_trans X.base hS.1⟩
/-- the words of a call: virtual (or private), static, of a constructor -/
def gLV (own : String) (idx : Nat) (C : String) (y : MethodName) (bytes : ByteArray) (n' : Nat) (ret' : Option FieldType) (na : Nat) : Prop :=
  Cond.methodLink own idx y ∈ gT ∧ Cond.instanceMethod y ∈ gT ∧ Cond.selects C y y ∈ gT ∧ Cond.initialized C ∈ gT ∧ Cond.code y bytes n' ret' ∈ gT ∧ (y.cls = C ∧ y.cls ≠ "java/lang/invoke/MethodHandle" ∧ y.cls ≠ "java/lang/invoke/VarHandle" ∧ (parseMethodDescriptor y.desc).map (fun d => d.parameters.length) = some na)
def gLS (own : String) (idx : Nat) (y : MethodName) (bytes : ByteArray) (n' : Nat) (ret' : Option FieldType) (na : Nat) : Prop :=
  Cond.methodLink own idx y ∈ gT ∧ Cond.static y ∈ gT ∧ Cond.initialized own ∈ gT ∧ Cond.code y bytes n' ret' ∈ gT ∧ (y.cls = own ∧ y.cls ≠ "java/lang/invoke/MethodHandle" ∧ y.cls ≠ "java/lang/invoke/VarHandle" ∧ (parseMethodDescriptor y.desc).map (fun d => d.parameters.length) = some na)
def gLI (own : String) (idx : Nat) (y : MethodName) (bytes : ByteArray) (n' : Nat) (na : Nat) : Prop :=
  Cond.methodLink own idx y ∈ gT ∧ Cond.instanceMethod y ∈ gT ∧ Cond.initialized y.cls ∈ gT ∧ Cond.code y bytes n' none ∈ gT ∧ y.name = "<init>" ∧ (y.cls ≠ "java/lang/invoke/MethodHandle" ∧ y.cls ≠ "java/lang/invoke/VarHandle" ∧ (parseMethodDescriptor y.desc).map (fun d => d.parameters.length) = some na)
/-- of a constructor that is private to a nest mate -/
def gLN (own : String) (idx : Nat) (y : MethodName) (host : String) (bytes : ByteArray) (n' : Nat) (na : Nat) : Prop :=
  Cond.methodLinkNest own idx y host ∈ gB ∧ Cond.instanceMethod y ∈ gT ∧ Cond.initialized y.cls ∈ gT ∧ Cond.code y bytes n' none ∈ gT ∧ y.name = "<init>" ∧ (y.cls ≠ "java/lang/invoke/MethodHandle" ∧ y.cls ≠ "java/lang/invoke/VarHandle" ∧ (parseMethodDescriptor y.desc).map (fun d => d.parameters.length) = some na)
theorem g_callV {idx na n' d mc ms b ci N : Nat} {C : String} {T : u_T} {ty : Nat → FieldType} {fs : List Value} {y : MethodName} {bytes : ByteArray} {ret' : Option FieldType} {As rest : List Value} {Q : Option Value → gH → Prop} {QX : String → gH → Prop}
    (X : gOK Z Γ cc own nL ret) (L : gLV own idx C y bytes n' ret' na) (hM : gMet Z y bytes n' ret' d mc ms (.ref b :: As) h Q QX) (K : gCls ci C T ty N) (hb : h b = some (.inr (ci, fs))) (hna : As.length = na) (hst : st = As.reverse ++ .ref b :: rest) (hcat : (rest.map fun v => v.category).sum ≤ 8)
    (hR : d + 1 ≤ Γ.2.2.1.frames ∧ 8 + (n' + 11) + 50 * d ≤ Γ.2.2.1.locals) (hf : k + mc ≤ Γ.2.2.1.cells ∧ n + ms ≤ Γ.2.2.1.slots) (dd : decode cc pc = .ok (.invokevirtual idx, 3))
    (kk : ∀ (v : Option Value) (h' : gH), Q v h' → GJ Z Γ h' (k + mc) (n + ms) (pc + 3) lv (v.toList ++ rest)) (kx : ∀ (E : String) (h' : gH), QX E h' → GX Z Γ h' (k + mc) (n + ms) pc lv rest E) : GJ Z Γ h k n pc lv st := by
  subst hst
  obtain ⟨l1, l2, l3, l4, l5, l6⟩ := L
  refine g_back (rest := rest) (As' := (Value.ref b :: As).toArray) (fun H locs ls hw hS hl => ?_) kk kx
  have hG : GoodIn gT (wsV own idx C y (gWS y bytes n' ret')) := by
    intro w hw
    unfold wsV at hw
    rcases List.mem_append.mp hw with hw | hw
    · simp only [List.mem_cons, List.not_mem_nil, or_false] at hw
      rcases hw with rfl | rfl | rfl | rfl
      · exact gWS_in l1
      · exact gWS_in l2
      · exact gWS_in l3
      · exact gWS_in l4
    · exact gWS_good l5 w hw
  obtain ⟨r, h1, cell, q1, q2, q3, -⟩ := (hw b _ hb).1
  have hcl : Γ.2.2.2.1.vm.findClass C = some cell.cls := by rw [q2]; exact (X.K.1 ci _ K.1).2.1
  exact vx_runV (n := na) ⟨X.exec, X.bytes, X.maxl, X.ow, X.wds⟩ hM (cwV (C := C) na X.wds hG rfl rfl rfl l6 hR) ⟨gPc_blind, ⟨cell, q1, by rw [q3]; rfl, hcl⟩, gPc_at X hw hS⟩ rfl hna (hl.1.trans X.nl) rfl (by rw [show JFrame.monitorRoom (F0 Γ.2.2.2.2.1 pc ls (As.reverse ++ .ref b :: rest)) = 0 from rfl]; omega) dd hf
theorem g_callS {idx na n' d mc ms : Nat} {y : MethodName} {bytes : ByteArray} {ret' : Option FieldType} {As rest : List Value} {Q : Option Value → gH → Prop} {QX : String → gH → Prop}
    (X : gOK Z Γ cc own nL ret) (L : gLS own idx y bytes n' ret' na) (hM : gMet Z y bytes n' ret' d mc ms As h Q QX) (hna : As.length = na) (hst : st = As.reverse ++ rest) (hcat : (rest.map fun v => v.category).sum ≤ 8)
    (hR : d + 1 ≤ Γ.2.2.1.frames ∧ 8 + (n' + 11) + 50 * d ≤ Γ.2.2.1.locals) (hf : k + mc ≤ Γ.2.2.1.cells ∧ n + ms ≤ Γ.2.2.1.slots) (dd : decode cc pc = .ok (.invokestatic idx, 3))
    (kk : ∀ (v : Option Value) (h' : gH), Q v h' → GJ Z Γ h' (k + mc) (n + ms) (pc + 3) lv (v.toList ++ rest)) (kx : ∀ (E : String) (h' : gH), QX E h' → GX Z Γ h' (k + mc) (n + ms) pc lv rest E) : GJ Z Γ h k n pc lv st := by
  subst hst
  obtain ⟨l1, l2, l3, l4, l5⟩ := L
  refine g_back (rest := rest) (As' := As.toArray) (fun H locs ls hw hS hl => ?_) kk kx
  have hG : GoodIn gT (wsS own idx y (gWS y bytes n' ret')) := by
    intro w hw
    unfold wsS at hw
    rcases List.mem_append.mp hw with hw | hw
    · simp only [List.mem_cons, List.not_mem_nil, or_false] at hw
      rcases hw with rfl | rfl | rfl
      · exact gWS_in l1
      · exact gWS_in l2
      · exact gWS_in l3
    · exact gWS_good l4 w hw
  exact vx_runS (n := na) ⟨X.exec, X.bytes, X.maxl, X.ow, X.wds⟩ hM (cwS na X.wds hG rfl rfl rfl l5 hR) ⟨gPc_blind, gPc_at X hw hS⟩ rfl hna (hl.1.trans X.nl) rfl (by rw [show JFrame.monitorRoom (F0 Γ.2.2.2.2.1 pc ls (As.reverse ++ rest)) = 0 from rfl]; omega) dd hf
theorem g_callI {idx na n' d mc ms b : Nat} {y : MethodName} {bytes : ByteArray} {As rest : List Value} {Q : gH → Prop}
    (X : gOK Z Γ cc own nL ret) (L : gLI own idx y bytes n' na) (hM : gMetI Z y bytes n' d mc ms (.ref b :: As) h Q) (hna : As.length = na) (hst : st = As.reverse ++ .ref b :: rest) (hcat : (rest.map fun v => v.category).sum ≤ 8)
    (hR : d + 1 ≤ Γ.2.2.1.frames ∧ 8 + (n' + 11) + 50 * d ≤ Γ.2.2.1.locals) (hf : k + mc ≤ Γ.2.2.1.cells ∧ n + ms ≤ Γ.2.2.1.slots) (dd : decode cc pc = .ok (.invokespecial idx, 3))
    (kk : ∀ (h' : gH), Q h' → GJ Z Γ h' (k + mc) (n + ms) (pc + 3) lv rest) : GJ Z Γ h k n pc lv st := by
  subst hst
  obtain ⟨l1, l2, l3, l4, l5, l6⟩ := L
  refine g_backI (rest := rest) (As' := (Value.ref b :: As).toArray) (Q := fun v h' => v = none ∧ Q h') (fun H locs ls hw hS hl => ?_) (fun v h' hq => by rw [hq.1]; exact kk h' hq.2)
  exact va_runI (n := na) ⟨X.exec, X.bytes, X.maxl, X.ow, X.wds⟩ hM (cwI na X.wds (gWS_good l4) rfl rfl rfl (X.wd l3) (X.wd l1) (X.wd l2) l5 l6 hR) ⟨gPc_blind, gPc_at X hw hS⟩ rfl hna (hl.1.trans X.nl) rfl (by rw [show JFrame.monitorRoom (F0 Γ.2.2.2.2.1 pc ls (As.reverse ++ .ref b :: rest)) = 0 from rfl]; omega) dd hf
theorem g_callIN {idx na n' d mc ms b : Nat} {y : MethodName} {host : String} {bytes : ByteArray} {As rest : List Value} {Q : gH → Prop}
    (X : gOK Z Γ cc own nL ret) (L : gLN own idx y host bytes n' na) (hM : gMetI Z y bytes n' d mc ms (.ref b :: As) h Q) (hna : As.length = na) (hst : st = As.reverse ++ .ref b :: rest) (hcat : (rest.map fun v => v.category).sum ≤ 8)
    (hR : d + 1 ≤ Γ.2.2.1.frames ∧ 8 + (n' + 11) + 50 * d ≤ Γ.2.2.1.locals) (hf : k + mc ≤ Γ.2.2.1.cells ∧ n + ms ≤ Γ.2.2.1.slots) (dd : decode cc pc = .ok (.invokespecial idx, 3))
    (kk : ∀ (h' : gH), Q h' → GJ Z Γ h' (k + mc) (n + ms) (pc + 3) lv rest) : GJ Z Γ h k n pc lv st := by
  subst hst
  obtain ⟨l1, l2, l3, l4, l5, l6⟩ := L
  refine g_backI (rest := rest) (As' := (Value.ref b :: As).toArray) (Q := fun v h' => v = none ∧ Q h') (fun H locs ls hw hS hl => ?_) (fun v h' hq => by rw [hq.1]; exact kk h' hq.2)
  exact va_runIN (n := na) ⟨X.exec, X.bytes, X.maxl, X.ow, X.wds⟩ hM ⟨va_cnB na X.wds (gWS_good l4) rfl rfl rfl (X.stt.2.2.2.1 _ l1) (X.wd l3) l6 hR, l5, X.wd l2⟩ ⟨gPc_blind, gPc_at X hw hS⟩ rfl hna (hl.1.trans X.nl) rfl (by rw [show JFrame.monitorRoom (F0 Γ.2.2.2.2.1 pc ls (As.reverse ++ .ref b :: rest)) = 0 from rfl]; omega) dd hf
/-- the words of a throw: class, constructor -/
def gThr (own : String) (ik ic : Nat) (cls : String) (names : List String) : Prop :=
  Bundle.fit cls = true ∧ (∀ n ∈ names, Bundle.fit n = true) ∧ Cond.classLink own ik cls ∈ gT ∧ Cond.initialized cls ∈ gT ∧ (∀ w ∈ vx_atS own ic cls names, w ∈ gT ∨ w ∈ gB) ∧ ∀ w ∈ Cond.classLink own ik cls :: Cond.initialized cls :: vx_atS own ic cls names, vx_ot w = true
theorem gB_onT {w : Cond} (hw : w ∈ gB) : w.onTables = true := by
  have := (List.mem_filter.mp hw).2
  cases w <;> first | rfl | (exact absurd this (by simp [gSoft]))
theorem g_throw {ik is ic mc ms : Nat} {cls text : String} {names : List String} {Q : Option Value → gH → Prop} {QX : String → gH → Prop} (X : gOK Z Γ cc own nL ret) (Nt : gNoTab Γ) (E : gEnd Z Γ mc ms Q QX) (TH : gThr own ik ic cls names) (hstr : (own, is, text) ∈ gStrs)
    (d0 : decode cc pc = .ok (.new ik, 3)) (d3 : decode cc (pc + 3) = .ok (.dup, 1)) (d4 : decode cc (pc + 4) = .ok (.ldc is, 2)) (d6 : decode cc (pc + 6) = .ok (.invokespecial ic, 3)) (d9 : decode cc (pc + 9) = .ok (.athrow, 1))
    (hR1 : names.length + 3 < Γ.2.2.1.frames) (hR2 : (st.map fun v => v.category).sum + (13 * (names.length + 1) + 43) ≤ Γ.2.2.1.locals) (hR3 : k + 1 ≤ Γ.2.2.1.cells) (hR4 : n + 6 ≤ Γ.2.2.1.slots) (h1 : k + 1 ≤ mc) (h2 : n + 6 ≤ ms) (hq : QX cls h) : GJ Z Γ h k n pc lv st := by
  intro H locs ls hw hS hl
  obtain ⟨t1, t2, t3, t4, t5, t6⟩ := TH
  obtain ⟨sa, hsa⟩ := X.stt.2.2.1 _ hstr
  unfold gW
  rw [E]
  exact vx_throwS (names := names) (text := text) X.exec X.bytes X.nst X.ow t1 t2 (X.wd t3) (X.wd t4) hsa (fun w hw9 => (t5 w hw9).elim (fun q => X.wd q) (fun q => va_Nw.use (gB_onT q) (X.stt.2.2.2.1 w q))) t6 X.stt.1 X.stt.2.1 hS (by rw [X.maxl]; exact hl.1.trans X.nl) d0 d3 d4 d6 d9 (fun x hx => (Nt x hx).elim) hR1 hR2 hR3 hR4 X.locks
    (fun t ha hz hk => ⟨⟨h, hq, hw.kept hk⟩, Nat.le_trans hS.1 hz, fun q g1 g2 => (hk q (Nat.lt_of_lt_of_le g1 hS.1)).trans (hS.2.1 q g1 g2)⟩) hS.2.2 h1 h2
theorem g_throwW {ik is ic mc ms : Nat} {cls text : String} {names : List String} {Q : Option Value → gH → Prop} {QX : String → gH → Prop} (X : gOK Z Γ cc own nL ret) (Nt : gNoTab Γ) (E : gEnd Z Γ mc ms Q QX) (TH : gThr own ik ic cls names) (hstr : (own, is, text) ∈ gStrs)
    (d0 : decode cc pc = .ok (.new ik, 3)) (d3 : decode cc (pc + 3) = .ok (.dup, 1)) (d4 : decode cc (pc + 4) = .ok (.ldc_w is, 3)) (d7 : decode cc (pc + 7) = .ok (.invokespecial ic, 3)) (d10 : decode cc (pc + 10) = .ok (.athrow, 1))
    (hR1 : names.length + 3 < Γ.2.2.1.frames) (hR2 : (st.map fun v => v.category).sum + (13 * (names.length + 1) + 43) ≤ Γ.2.2.1.locals) (hR3 : k + 1 ≤ Γ.2.2.1.cells) (hR4 : n + 6 ≤ Γ.2.2.1.slots) (h1 : k + 1 ≤ mc) (h2 : n + 6 ≤ ms) (hq : QX cls h) : GJ Z Γ h k n pc lv st := by
  intro H locs ls hw hS hl
  obtain ⟨t1, t2, t3, t4, t5, t6⟩ := TH
  obtain ⟨sa, hsa⟩ := X.stt.2.2.1 _ hstr
  unfold gW
  rw [E]
  exact vx_throwSW (names := names) (text := text) X.exec X.bytes X.nst X.ow t1 t2 (X.wd t3) (X.wd t4) hsa (fun w hw9 => (t5 w hw9).elim (fun q => X.wd q) (fun q => va_Nw.use (gB_onT q) (X.stt.2.2.2.1 w q))) t6 X.stt.1 X.stt.2.1 hS (by rw [X.maxl]; exact hl.1.trans X.nl) d0 d3 d4 d7 d10 (fun x hx => (Nt x hx).elim) hR1 hR2 hR3 hR4 X.locks
    (fun t ha hz hk => ⟨⟨h, hq, hw.kept hk⟩, Nat.le_trans hS.1 hz, fun q g1 g2 => (hk q (Nat.lt_of_lt_of_le g1 hS.1)).trans (hS.2.1 q g1 g2)⟩) hS.2.2 h1 h2
end GCALLS
end
section
/-! facts of the tables, by program (wip/p46/facts.py) -/
section GFACTS
theorem cl_X0 : gCls 2 RX0 TX0 tyX0 6 := ⟨rfl, fun w hw => gT_in ((by decide +kernel : ∀ w ∈ u_ws RX0 TX0 6, w ∈ lw_tbl) w hw) ((by decide +kernel : ∀ w ∈ u_ws RX0 TX0 6, goodWord w = true) w hw), tyX0_ok, nmX0, gT_at 386 (by decide +kernel) (by decide +kernel), gT_at 32 (by decide +kernel) (by decide +kernel)⟩
theorem cl_X1 : gCls 3 RX1 TX1 tyX1 11 := ⟨rfl, fun w hw => gT_in ((by decide +kernel : ∀ w ∈ u_ws RX1 TX1 11, w ∈ lw_tbl) w hw) ((by decide +kernel : ∀ w ∈ u_ws RX1 TX1 11, goodWord w = true) w hw), tyX1_ok, nmX1, gT_at 801 (by decide +kernel) (by decide +kernel), gT_at 36 (by decide +kernel) (by decide +kernel)⟩
theorem cl_X2 : gCls 4 RX2 TX2 tyX2 2 := ⟨rfl, fun w hw => gT_in ((by decide +kernel : ∀ w ∈ u_ws RX2 TX2 2, w ∈ lw_tbl) w hw) ((by decide +kernel : ∀ w ∈ u_ws RX2 TX2 2, goodWord w = true) w hw), tyX2_ok, nmX2, gT_at 271 (by decide +kernel) (by decide +kernel), gT_at 30 (by decide +kernel) (by decide +kernel)⟩
theorem cl_X3 : gCls 5 RX3 TX3 tyX3 15 := ⟨rfl, fun w hw => gT_in ((by decide +kernel : ∀ w ∈ u_ws RX3 TX3 15, w ∈ lw_tbl) w hw) ((by decide +kernel : ∀ w ∈ u_ws RX3 TX3 15, goodWord w = true) w hw), tyX3_ok, nmX3, gT_at 242 (by decide +kernel) (by decide +kernel), gT_at 28 (by decide +kernel) (by decide +kernel)⟩
theorem cl_X4 : gCls 6 RX4 TX4 tyX4 3 := ⟨rfl, fun w hw => gT_in ((by decide +kernel : ∀ w ∈ u_ws RX4 TX4 3, w ∈ lw_tbl) w hw) ((by decide +kernel : ∀ w ∈ u_ws RX4 TX4 3, goodWord w = true) w hw), tyX4_ok, nmX4, gT_at 248 (by decide +kernel) (by decide +kernel), gT_at 29 (by decide +kernel) (by decide +kernel)⟩
theorem cl_X5 : gCls 7 RX5 TX5 tyX5 9 := ⟨rfl, fun w hw => gT_in ((by decide +kernel : ∀ w ∈ u_ws RX5 TX5 9, w ∈ lw_tbl) w hw) ((by decide +kernel : ∀ w ∈ u_ws RX5 TX5 9, goodWord w = true) w hw), tyX5_ok, nmX5, gT_at 454 (by decide +kernel) (by decide +kernel), gT_at 33 (by decide +kernel) (by decide +kernel)⟩
theorem cl_X6 : gCls 8 RX6 TX6 tyX6 13 := ⟨rfl, fun w hw => gT_in ((by decide +kernel : ∀ w ∈ u_ws RX6 TX6 13, w ∈ lw_tbl) w hw) ((by decide +kernel : ∀ w ∈ u_ws RX6 TX6 13, goodWord w = true) w hw), tyX6_ok, nmX6, gT_at 42 (by decide +kernel) (by decide +kernel), gT_at 19 (by decide +kernel) (by decide +kernel)⟩
-- other method: Coasterland 1 java/lang/Object.<init>()V
theorem lc_X6_9 : Cond.classLink RX6 9 "Coasterland$Ride" ∈ gT := gT_at 49 (by decide +kernel) (by decide +kernel)
theorem lk_X6_11 : Cond.fieldLink RX6 11 RX6 "rideList" "[LCoasterland$Ride;" ∈ gT := gT_at 53 (by decide +kernel) (by decide +kernel)
theorem lk_X6_15 : Cond.fieldLink RX6 15 RX6 "certificateList" "[I" ∈ gT := gT_at 55 (by decide +kernel) (by decide +kernel)
theorem lc_X6_19 : Cond.classLink RX6 19 "Coasterland$Guest" ∈ gT := gT_at 51 (by decide +kernel) (by decide +kernel)
theorem lk_X6_21 : Cond.fieldLink RX6 21 RX6 "guestList" "[LCoasterland$Guest;" ∈ gT := gT_at 57 (by decide +kernel) (by decide +kernel)
theorem lm_X6_25 : gLS RX6 25 yX6_isWithin cX6_isWithin 3 ((Option.some FieldType.boolean)) 3 := ⟨gT_at 207 (by decide +kernel) (by decide +kernel), gT_at 208 (by decide +kernel) (by decide +kernel), gT_at 19 (by decide +kernel) (by decide +kernel), gT_at 209 (by decide +kernel) (by decide +kernel), rfl, by decide +kernel, by decide +kernel, by decide +kernel⟩
theorem lc_X6_29 : Cond.classLink RX6 29 "java/lang/IllegalArgumentException" ∈ gT := gT_at 210 (by decide +kernel) (by decide +kernel)
theorem ls_X6_31 : (RX6, 31, "no such height, wind or price") ∈ gStrs := List.mem_filterMap.mpr ⟨_, List.mem_of_getElem? (i := 201) (a := Cond.stringRef "Coasterland" 31 "no such height, wind or price") (by decide +kernel), rfl⟩
-- other method: Coasterland 33 java/lang/IllegalArgumentException.<init>(Ljava/lang/String;)V
theorem lk_X6_36 : Cond.fieldLink RX6 36 RX6 "rideCount" "I" ∈ gT := gT_at 54 (by decide +kernel) (by decide +kernel)
theorem lc_X6_40 : Cond.classLink RX6 40 "java/lang/IllegalStateException" ∈ gT := gT_at 226 (by decide +kernel) (by decide +kernel)
theorem ls_X6_42 : (RX6, 42, "no more rides") ∈ gStrs := List.mem_filterMap.mpr ⟨_, List.mem_of_getElem? (i := 217) (a := Cond.stringRef "Coasterland" 42 "no more rides") (by decide +kernel), rfl⟩
-- other method: Coasterland 44 java/lang/IllegalStateException.<init>(Ljava/lang/String;)V
theorem lm_X6_45 : gLI RX6 45 yX3_init cX3_init 4 3 := ⟨gT_at 243 (by decide +kernel) (by decide +kernel), gT_at 244 (by decide +kernel) (by decide +kernel), gT_at 28 (by decide +kernel) (by decide +kernel), gT_at 245 (by decide +kernel) (by decide +kernel), rfl, by decide +kernel, by decide +kernel, by decide +kernel⟩
theorem lm_X6_48 : gLV RX6 48 RX6 yX6_rideAt cX6_rideAt 3 ((Option.some (FieldType.object "Coasterland$Ride"))) 1 := ⟨gT_at 347 (by decide +kernel) (by decide +kernel), gT_at 349 (by decide +kernel) (by decide +kernel), gT_at 2 (by decide +kernel) (by decide +kernel), gT_at 19 (by decide +kernel) (by decide +kernel), gT_at 350 (by decide +kernel) (by decide +kernel), rfl, by decide +kernel, by decide +kernel, by decide +kernel⟩
theorem lk_X6_52 : Cond.fieldLink RX6 52 RX3 "ring" "LCoasterland$Ring;" ∈ gT := gT_at 292 (by decide +kernel) (by decide +kernel)
theorem lm_X6_56 : gLS RX6 56 yX6_isBlock cX6_isBlock 4 ((Option.some FieldType.boolean)) 4 := ⟨gT_at 364 (by decide +kernel) (by decide +kernel), gT_at 365 (by decide +kernel) (by decide +kernel), gT_at 19 (by decide +kernel) (by decide +kernel), gT_at 366 (by decide +kernel) (by decide +kernel), rfl, by decide +kernel, by decide +kernel, by decide +kernel⟩
theorem ls_X6_60 : (RX6, 60, "no such block") ∈ gStrs := List.mem_filterMap.mpr ⟨_, List.mem_of_getElem? (i := 349) (a := Cond.stringRef "Coasterland" 60 "no such block") (by decide +kernel), rfl⟩
theorem lk_X6_62 : Cond.fieldLink RX6 62 RX4 "closed" "Z" ∈ gT := gT_at 259 (by decide +kernel) (by decide +kernel)
theorem lc_X6_68 : Cond.classLink RX6 68 "java/lang/UnsupportedOperationException" ∈ gT := gT_at 368 (by decide +kernel) (by decide +kernel)
theorem ls_X6_70 : (RX6, 70, "the ring is closed") ∈ gStrs := List.mem_filterMap.mpr ⟨_, List.mem_of_getElem? (i := 359) (a := Cond.stringRef "Coasterland" 70 "the ring is closed") (by decide +kernel), rfl⟩
-- other method: Coasterland 72 java/lang/UnsupportedOperationException.<init>(Ljava/lang/String;)V
theorem lk_X6_73 : Cond.fieldLink RX6 73 RX4 "blockCount" "I" ∈ gT := gT_at 257 (by decide +kernel) (by decide +kernel)
theorem ls_X6_76 : (RX6, 76, "no more blocks") ∈ gStrs := List.mem_filterMap.mpr ⟨_, List.mem_of_getElem? (i := 366) (a := Cond.stringRef "Coasterland" 76 "no more blocks") (by decide +kernel), rfl⟩
theorem lc_X6_78 : Cond.classLink RX6 78 "Coasterland$Block" ∈ gT := gT_at 385 (by decide +kernel) (by decide +kernel)
theorem lm_X6_80 : gLI RX6 80 yX0_init cX0_init 5 4 := ⟨gT_at 387 (by decide +kernel) (by decide +kernel), gT_at 388 (by decide +kernel) (by decide +kernel), gT_at 32 (by decide +kernel) (by decide +kernel), gT_at 389 (by decide +kernel) (by decide +kernel), rfl, by decide +kernel, by decide +kernel, by decide +kernel⟩
theorem lm_X6_83 : gLV RX6 83 RX4 yX4_append cX4_append 2 ((Option.some FieldType.int)) 1 := ⟨gT_at 413 (by decide +kernel) (by decide +kernel), gT_at 414 (by decide +kernel) (by decide +kernel), gT_at 415 (by decide +kernel) (by decide +kernel), gT_at 29 (by decide +kernel) (by decide +kernel), gT_at 416 (by decide +kernel) (by decide +kernel), rfl, by decide +kernel, by decide +kernel, by decide +kernel⟩
theorem lm_X6_87 : gLV RX6 87 RX4 yX4_canBeClosed cX4_canBeClosed 7 ((Option.some FieldType.boolean)) 0 := ⟨gT_at 421 (by decide +kernel) (by decide +kernel), gT_at 422 (by decide +kernel) (by decide +kernel), gT_at 423 (by decide +kernel) (by decide +kernel), gT_at 29 (by decide +kernel) (by decide +kernel), gT_at 424 (by decide +kernel) (by decide +kernel), rfl, by decide +kernel, by decide +kernel, by decide +kernel⟩
theorem ls_X6_91 : (RX6, 91, "the ring cannot be closed") ∈ gStrs := List.mem_filterMap.mpr ⟨_, List.mem_of_getElem? (i := 411) (a := Cond.stringRef "Coasterland" 91 "the ring cannot be closed") (by decide +kernel), rfl⟩
theorem lm_X6_93 : gLV RX6 93 RX4 yX4_countStops cX4_countStops 6 ((Option.some FieldType.int)) 0 := ⟨gT_at 430 (by decide +kernel) (by decide +kernel), gT_at 431 (by decide +kernel) (by decide +kernel), gT_at 432 (by decide +kernel) (by decide +kernel), gT_at 29 (by decide +kernel) (by decide +kernel), gT_at 433 (by decide +kernel) (by decide +kernel), rfl, by decide +kernel, by decide +kernel, by decide +kernel⟩
theorem ls_X6_97 : (RX6, 97, "no such number of seats") ∈ gStrs := List.mem_filterMap.mpr ⟨_, List.mem_of_getElem? (i := 424) (a := Cond.stringRef "Coasterland" 97 "no such number of seats") (by decide +kernel), rfl⟩
theorem lm_X6_99 : gLV RX6 99 RX3 yX3_isBlockHeld cX3_isBlockHeld 6 ((Option.some FieldType.boolean)) 1 := ⟨gT_at 443 (by decide +kernel) (by decide +kernel), gT_at 444 (by decide +kernel) (by decide +kernel), gT_at 445 (by decide +kernel) (by decide +kernel), gT_at 28 (by decide +kernel) (by decide +kernel), gT_at 446 (by decide +kernel) (by decide +kernel), rfl, by decide +kernel, by decide +kernel, by decide +kernel⟩
theorem ls_X6_103 : (RX6, 103, "the station cannot take a train") ∈ gStrs := List.mem_filterMap.mpr ⟨_, List.mem_of_getElem? (i := 433) (a := Cond.stringRef "Coasterland" 103 "the station cannot take a train") (by decide +kernel), rfl⟩
theorem lk_X6_105 : Cond.fieldLink RX6 105 RX3 "trainCount" "I" ∈ gT := gT_at 295 (by decide +kernel) (by decide +kernel)
theorem ls_X6_108 : (RX6, 108, "no more trains") ∈ gStrs := List.mem_filterMap.mpr ⟨_, List.mem_of_getElem? (i := 434) (a := Cond.stringRef "Coasterland" 108 "no more trains") (by decide +kernel), rfl⟩
theorem lc_X6_110 : Cond.classLink RX6 110 "Coasterland$Train" ∈ gT := gT_at 453 (by decide +kernel) (by decide +kernel)
theorem lm_X6_112 : gLI RX6 112 yX5_init cX5_init 2 1 := ⟨gT_at 455 (by decide +kernel) (by decide +kernel), gT_at 456 (by decide +kernel) (by decide +kernel), gT_at 33 (by decide +kernel) (by decide +kernel), gT_at 457 (by decide +kernel) (by decide +kernel), rfl, by decide +kernel, by decide +kernel, by decide +kernel⟩
theorem lm_X6_115 : gLV RX6 115 RX3 yX3_putTrain cX3_putTrain 2 ((Option.some FieldType.int)) 1 := ⟨gT_at 496 (by decide +kernel) (by decide +kernel), gT_at 497 (by decide +kernel) (by decide +kernel), gT_at 498 (by decide +kernel) (by decide +kernel), gT_at 28 (by decide +kernel) (by decide +kernel), gT_at 499 (by decide +kernel) (by decide +kernel), rfl, by decide +kernel, by decide +kernel, by decide +kernel⟩
theorem lm_X6_119 : gLV RX6 119 RX3 yX3_compareProcessors cX3_compareProcessors 1 ((Option.none : Option FieldType)) 0 := ⟨gT_at 500 (by decide +kernel) (by decide +kernel), gT_at 501 (by decide +kernel) (by decide +kernel), gT_at 502 (by decide +kernel) (by decide +kernel), gT_at 28 (by decide +kernel) (by decide +kernel), gT_at 503 (by decide +kernel) (by decide +kernel), rfl, by decide +kernel, by decide +kernel, by decide +kernel⟩
theorem ls_X6_122 : (RX6, 122, "no such certificates") ∈ gStrs := List.mem_filterMap.mpr ⟨_, List.mem_of_getElem? (i := 511) (a := Cond.stringRef "Coasterland" 122 "no such certificates") (by decide +kernel), rfl⟩
theorem lk_X6_124 : Cond.fieldLink RX6 124 RX6 "staffCount" "I" ∈ gT := gT_at 56 (by decide +kernel) (by decide +kernel)
theorem ls_X6_127 : (RX6, 127, "no more staff") ∈ gStrs := List.mem_filterMap.mpr ⟨_, List.mem_of_getElem? (i := 512) (a := Cond.stringRef "Coasterland" 127 "no more staff") (by decide +kernel), rfl⟩
theorem lm_X6_129 : gLV RX6 129 RX6 yX6_checkMember cX6_checkMember 2 ((Option.none : Option FieldType)) 1 := ⟨gT_at 535 (by decide +kernel) (by decide +kernel), gT_at 537 (by decide +kernel) (by decide +kernel), gT_at 5 (by decide +kernel) (by decide +kernel), gT_at 19 (by decide +kernel) (by decide +kernel), gT_at 538 (by decide +kernel) (by decide +kernel), rfl, by decide +kernel, by decide +kernel, by decide +kernel⟩
theorem lm_X6_132 : gLV RX6 132 RX6 yX6_isCertified cX6_isCertified 3 ((Option.some FieldType.boolean)) 2 := ⟨gT_at 540 (by decide +kernel) (by decide +kernel), gT_at 542 (by decide +kernel) (by decide +kernel), gT_at 6 (by decide +kernel) (by decide +kernel), gT_at 19 (by decide +kernel) (by decide +kernel), gT_at 543 (by decide +kernel) (by decide +kernel), rfl, by decide +kernel, by decide +kernel, by decide +kernel⟩
theorem lm_X6_136 : gLV RX6 136 RX6 yX6_operatesAnother cX6_operatesAnother 7 ((Option.some FieldType.boolean)) 2 := ⟨gT_at 544 (by decide +kernel) (by decide +kernel), gT_at 546 (by decide +kernel) (by decide +kernel), gT_at 7 (by decide +kernel) (by decide +kernel), gT_at 19 (by decide +kernel) (by decide +kernel), gT_at 547 (by decide +kernel) (by decide +kernel), rfl, by decide +kernel, by decide +kernel, by decide +kernel⟩
theorem ls_X6_140 : (RX6, 140, "the member cannot operate this ride") ∈ gStrs := List.mem_filterMap.mpr ⟨_, List.mem_of_getElem? (i := 530) (a := Cond.stringRef "Coasterland" 140 "the member cannot operate this ride") (by decide +kernel), rfl⟩
theorem lk_X6_142 : Cond.fieldLink RX6 142 RX3 "operator" "I" ∈ gT := gT_at 301 (by decide +kernel) (by decide +kernel)
theorem ls_X6_145 : (RX6, 145, "the member is not certified") ∈ gStrs := List.mem_filterMap.mpr ⟨_, List.mem_of_getElem? (i := 535) (a := Cond.stringRef "Coasterland" 145 "the member is not certified") (by decide +kernel), rfl⟩
theorem lk_X6_147 : Cond.fieldLink RX6 147 RX3 "leftSinceInspection" "I" ∈ gT := gT_at 304 (by decide +kernel) (by decide +kernel)
theorem lk_X6_150 : Cond.fieldLink RX6 150 RX3 "inspected" "Z" ∈ gT := gT_at 302 (by decide +kernel) (by decide +kernel)
theorem lm_X6_153 : gLV RX6 153 RX3 yX3_isLockedBy cX3_isLockedBy 2 ((Option.some FieldType.boolean)) 1 := ⟨gT_at 558 (by decide +kernel) (by decide +kernel), gT_at 559 (by decide +kernel) (by decide +kernel), gT_at 560 (by decide +kernel) (by decide +kernel), gT_at 28 (by decide +kernel) (by decide +kernel), gT_at 561 (by decide +kernel) (by decide +kernel), rfl, by decide +kernel, by decide +kernel, by decide +kernel⟩
theorem ls_X6_156 : (RX6, 156, "this lock is on already") ∈ gStrs := List.mem_filterMap.mpr ⟨_, List.mem_of_getElem? (i := 544) (a := Cond.stringRef "Coasterland" 156 "this lock is on already") (by decide +kernel), rfl⟩
theorem lk_X6_158 : Cond.fieldLink RX6 158 RX3 "locks" "I" ∈ gT := gT_at 309 (by decide +kernel) (by decide +kernel)
-- other method: Coasterland 161 java/lang/Integer.bitCount(I)I
theorem ls_X6_167 : (RX6, 167, "no such lock is on") ∈ gStrs := List.mem_filterMap.mpr ⟨_, List.mem_of_getElem? (i := 555) (a := Cond.stringRef "Coasterland" 167 "no such lock is on") (by decide +kernel), rfl⟩
theorem lm_X6_169 : gLS RX6 169 yX6_blockAt cX6_blockAt 3 ((Option.some (FieldType.object "Coasterland$Block"))) 2 := ⟨gT_at 578 (by decide +kernel) (by decide +kernel), gT_at 579 (by decide +kernel) (by decide +kernel), gT_at 19 (by decide +kernel) (by decide +kernel), gT_at 580 (by decide +kernel) (by decide +kernel), rfl, by decide +kernel, by decide +kernel, by decide +kernel⟩
theorem lm_X6_173 : gLS RX6 173 yX6_checkProcessor cX6_checkProcessor 1 ((Option.none : Option FieldType)) 1 := ⟨gT_at 582 (by decide +kernel) (by decide +kernel), gT_at 583 (by decide +kernel) (by decide +kernel), gT_at 19 (by decide +kernel) (by decide +kernel), gT_at 584 (by decide +kernel) (by decide +kernel), rfl, by decide +kernel, by decide +kernel, by decide +kernel⟩
theorem ls_X6_176 : (RX6, 176, "no such way") ∈ gStrs := List.mem_filterMap.mpr ⟨_, List.mem_of_getElem? (i := 568) (a := Cond.stringRef "Coasterland" 176 "no such way") (by decide +kernel), rfl⟩
theorem lm_X6_178 : gLV RX6 178 RX0 yX0_sensor cX0_sensor 2 ((Option.some FieldType.char)) 1 := ⟨gT_at 587 (by decide +kernel) (by decide +kernel), gT_at 522 (by decide +kernel) (by decide +kernel), gT_at 523 (by decide +kernel) (by decide +kernel), gT_at 32 (by decide +kernel) (by decide +kernel), gT_at 524 (by decide +kernel) (by decide +kernel), rfl, by decide +kernel, by decide +kernel, by decide +kernel⟩
theorem lm_X6_182 : gLV RX6 182 RX0 yX0_tellSensor cX0_tellSensor 3 ((Option.none : Option FieldType)) 2 := ⟨gT_at 588 (by decide +kernel) (by decide +kernel), gT_at 589 (by decide +kernel) (by decide +kernel), gT_at 590 (by decide +kernel) (by decide +kernel), gT_at 32 (by decide +kernel) (by decide +kernel), gT_at 591 (by decide +kernel) (by decide +kernel), rfl, by decide +kernel, by decide +kernel, by decide +kernel⟩
theorem lk_X6_186 : Cond.fieldLink RX6 186 RX3 "tripped" "Z" ∈ gT := gT_at 310 (by decide +kernel) (by decide +kernel)
theorem lm_X6_189 : gLV RX6 189 RX3 yX3_processorsDiffer cX3_processorsDiffer 1 ((Option.some FieldType.boolean)) 0 := ⟨gT_at 596 (by decide +kernel) (by decide +kernel), gT_at 505 (by decide +kernel) (by decide +kernel), gT_at 506 (by decide +kernel) (by decide +kernel), gT_at 28 (by decide +kernel) (by decide +kernel), gT_at 507 (by decide +kernel) (by decide +kernel), rfl, by decide +kernel, by decide +kernel, by decide +kernel⟩
theorem lm_X6_192 : gLV RX6 192 RX3 yX3_hasStalledTrain cX3_hasStalledTrain 1 ((Option.some FieldType.boolean)) 0 := ⟨gT_at 597 (by decide +kernel) (by decide +kernel), gT_at 598 (by decide +kernel) (by decide +kernel), gT_at 599 (by decide +kernel) (by decide +kernel), gT_at 28 (by decide +kernel) (by decide +kernel), gT_at 600 (by decide +kernel) (by decide +kernel), rfl, by decide +kernel, by decide +kernel, by decide +kernel⟩
theorem ls_X6_195 : (RX6, 195, "the ride cannot be reset") ∈ gStrs := List.mem_filterMap.mpr ⟨_, List.mem_of_getElem? (i := 587) (a := Cond.stringRef "Coasterland" 195 "the ride cannot be reset") (by decide +kernel), rfl⟩
theorem ls_X6_197 : (RX6, 197, "no such wind") ∈ gStrs := List.mem_filterMap.mpr ⟨_, List.mem_of_getElem? (i := 592) (a := Cond.stringRef "Coasterland" 197 "no such wind") (by decide +kernel), rfl⟩
theorem lk_X6_199 : Cond.fieldLink RX6 199 RX6 "windNow" "I" ∈ gT := gT_at 59 (by decide +kernel) (by decide +kernel)
theorem ls_X6_202 : (RX6, 202, "no such distance") ∈ gStrs := List.mem_filterMap.mpr ⟨_, List.mem_of_getElem? (i := 597) (a := Cond.stringRef "Coasterland" 202 "no such distance") (by decide +kernel), rfl⟩
theorem lk_X6_204 : Cond.fieldLink RX6 204 RX6 "struck" "Z" ∈ gT := gT_at 61 (by decide +kernel) (by decide +kernel)
theorem lk_X6_207 : Cond.fieldLink RX6 207 RX6 "tickNow" "I" ∈ gT := gT_at 60 (by decide +kernel) (by decide +kernel)
theorem lk_X6_210 : Cond.fieldLink RX6 210 RX6 "strikeTick" "I" ∈ gT := gT_at 62 (by decide +kernel) (by decide +kernel)
theorem lm_X6_213 : gLV RX6 213 RX3 yX3_trainInStation cX3_trainInStation 2 ((Option.some (FieldType.object "Coasterland$Train"))) 0 := ⟨gT_at 623 (by decide +kernel) (by decide +kernel), gT_at 624 (by decide +kernel) (by decide +kernel), gT_at 625 (by decide +kernel) (by decide +kernel), gT_at 28 (by decide +kernel) (by decide +kernel), gT_at 626 (by decide +kernel) (by decide +kernel), rfl, by decide +kernel, by decide +kernel, by decide +kernel⟩
theorem lm_X6_217 : gLV RX6 217 RX6 yX6_isLightningNear cX6_isLightningNear 1 ((Option.some FieldType.boolean)) 0 := ⟨gT_at 631 (by decide +kernel) (by decide +kernel), gT_at 633 (by decide +kernel) (by decide +kernel), gT_at 8 (by decide +kernel) (by decide +kernel), gT_at 19 (by decide +kernel) (by decide +kernel), gT_at 634 (by decide +kernel) (by decide +kernel), rfl, by decide +kernel, by decide +kernel, by decide +kernel⟩
theorem lm_X6_220 : gLV RX6 220 RX3 yX3_whatKeepsInStation cX3_whatKeepsInStation 4 ((Option.some FieldType.char)) 2 := ⟨gT_at 635 (by decide +kernel) (by decide +kernel), gT_at 636 (by decide +kernel) (by decide +kernel), gT_at 637 (by decide +kernel) (by decide +kernel), gT_at 28 (by decide +kernel) (by decide +kernel), gT_at 638 (by decide +kernel) (by decide +kernel), rfl, by decide +kernel, by decide +kernel, by decide +kernel⟩
theorem ls_X6_224 : (RX6, 224, "something keeps the train") ∈ gStrs := List.mem_filterMap.mpr ⟨_, List.mem_of_getElem? (i := 655) (a := Cond.stringRef "Coasterland" 224 "something keeps the train") (by decide +kernel), rfl⟩
theorem lm_X6_226 : gLV RX6 226 RX3 yX3_sendOff cX3_sendOff 2 ((Option.none : Option FieldType)) 1 := ⟨gT_at 674 (by decide +kernel) (by decide +kernel), gT_at 675 (by decide +kernel) (by decide +kernel), gT_at 676 (by decide +kernel) (by decide +kernel), gT_at 28 (by decide +kernel) (by decide +kernel), gT_at 677 (by decide +kernel) (by decide +kernel), rfl, by decide +kernel, by decide +kernel, by decide +kernel⟩
theorem lm_X6_230 : gLV RX6 230 RX3 yX3_board cX3_board 3 ((Option.some FieldType.int)) 1 := ⟨gT_at 682 (by decide +kernel) (by decide +kernel), gT_at 683 (by decide +kernel) (by decide +kernel), gT_at 684 (by decide +kernel) (by decide +kernel), gT_at 28 (by decide +kernel) (by decide +kernel), gT_at 685 (by decide +kernel) (by decide +kernel), rfl, by decide +kernel, by decide +kernel, by decide +kernel⟩
theorem lm_X6_233 : gLS RX6 233 yX6_trainAt cX6_trainAt 3 ((Option.some (FieldType.object "Coasterland$Train"))) 2 := ⟨gT_at 741 (by decide +kernel) (by decide +kernel), gT_at 742 (by decide +kernel) (by decide +kernel), gT_at 19 (by decide +kernel) (by decide +kernel), gT_at 743 (by decide +kernel) (by decide +kernel), rfl, by decide +kernel, by decide +kernel, by decide +kernel⟩
theorem lk_X6_237 : Cond.fieldLink RX6 237 RX5 "state" "C" ∈ gT := gT_at 472 (by decide +kernel) (by decide +kernel)
theorem ls_X6_241 : (RX6, 241, "the train has not stalled") ∈ gStrs := List.mem_filterMap.mpr ⟨_, List.mem_of_getElem? (i := 731) (a := Cond.stringRef "Coasterland" 241 "the train has not stalled") (by decide +kernel), rfl⟩
theorem lk_X6_243 : Cond.fieldLink RX6 243 RX5 "block" "I" ∈ gT := gT_at 467 (by decide +kernel) (by decide +kernel)
theorem lm_X6_246 : gLV RX6 246 RX4 yX4_nextStop cX4_nextStop 4 ((Option.some FieldType.int)) 1 := ⟨gT_at 750 (by decide +kernel) (by decide +kernel), gT_at 751 (by decide +kernel) (by decide +kernel), gT_at 752 (by decide +kernel) (by decide +kernel), gT_at 29 (by decide +kernel) (by decide +kernel), gT_at 753 (by decide +kernel) (by decide +kernel), rfl, by decide +kernel, by decide +kernel, by decide +kernel⟩
theorem lm_X6_249 : gLV RX6 249 RX5 yX5_standIn cX5_standIn 2 ((Option.none : Option FieldType)) 1 := ⟨gT_at 754 (by decide +kernel) (by decide +kernel), gT_at 755 (by decide +kernel) (by decide +kernel), gT_at 756 (by decide +kernel) (by decide +kernel), gT_at 33 (by decide +kernel) (by decide +kernel), gT_at 757 (by decide +kernel) (by decide +kernel), rfl, by decide +kernel, by decide +kernel, by decide +kernel⟩
theorem ls_X6_252 : (RX6, 252, "no such number of ticks") ∈ gStrs := List.mem_filterMap.mpr ⟨_, List.mem_of_getElem? (i := 755) (a := Cond.stringRef "Coasterland" 252 "no such number of ticks") (by decide +kernel), rfl⟩
theorem lm_X6_254 : gLV RX6 254 RX3 yX3_moveTrains cX3_moveTrains 4 ((Option.none : Option FieldType)) 1 := ⟨gT_at 774 (by decide +kernel) (by decide +kernel), gT_at 775 (by decide +kernel) (by decide +kernel), gT_at 776 (by decide +kernel) (by decide +kernel), gT_at 28 (by decide +kernel) (by decide +kernel), gT_at 777 (by decide +kernel) (by decide +kernel), rfl, by decide +kernel, by decide +kernel, by decide +kernel⟩
theorem lm_X6_257 : gLV RX6 257 RX6 yX6_letGuestsRecover cX6_letGuestsRecover 5 ((Option.none : Option FieldType)) 0 := ⟨gT_at 791 (by decide +kernel) (by decide +kernel), gT_at 793 (by decide +kernel) (by decide +kernel), gT_at 15 (by decide +kernel) (by decide +kernel), gT_at 19 (by decide +kernel) (by decide +kernel), gT_at 794 (by decide +kernel) (by decide +kernel), rfl, by decide +kernel, by decide +kernel, by decide +kernel⟩
theorem ls_X6_260 : (RX6, 260, "no such money, height or group") ∈ gStrs := List.mem_filterMap.mpr ⟨_, List.mem_of_getElem? (i := 781) (a := Cond.stringRef "Coasterland" 260 "no such money, height or group") (by decide +kernel), rfl⟩
theorem lk_X6_262 : Cond.fieldLink RX6 262 RX6 "guestCount" "I" ∈ gT := gT_at 58 (by decide +kernel) (by decide +kernel)
theorem ls_X6_265 : (RX6, 265, "no more guests") ∈ gStrs := List.mem_filterMap.mpr ⟨_, List.mem_of_getElem? (i := 782) (a := Cond.stringRef "Coasterland" 265 "no more guests") (by decide +kernel), rfl⟩
theorem lm_X6_267 : gLI RX6 267 yX1_init cX1_init 4 3 := ⟨gT_at 802 (by decide +kernel) (by decide +kernel), gT_at 803 (by decide +kernel) (by decide +kernel), gT_at 36 (by decide +kernel) (by decide +kernel), gT_at 804 (by decide +kernel) (by decide +kernel), rfl, by decide +kernel, by decide +kernel, by decide +kernel⟩
theorem lk_X6_268 : Cond.fieldLink RX6 268 RX6 "brought" "J" ∈ gT := gT_at 63 (by decide +kernel) (by decide +kernel)
theorem lm_X6_272 : gLV RX6 272 RX6 yX6_guestAt cX6_guestAt 3 ((Option.some (FieldType.object "Coasterland$Guest"))) 1 := ⟨gT_at 851 (by decide +kernel) (by decide +kernel), gT_at 853 (by decide +kernel) (by decide +kernel), gT_at 16 (by decide +kernel) (by decide +kernel), gT_at 19 (by decide +kernel) (by decide +kernel), gT_at 854 (by decide +kernel) (by decide +kernel), rfl, by decide +kernel, by decide +kernel, by decide +kernel⟩
theorem lk_X6_276 : Cond.fieldLink RX6 276 RX1 "place" "C" ∈ gT := gT_at 817 (by decide +kernel) (by decide +kernel)
theorem ls_X6_279 : (RX6, 279, "the guest is not on the paths") ∈ gStrs := List.mem_filterMap.mpr ⟨_, List.mem_of_getElem? (i := 838) (a := Cond.stringRef "Coasterland" 279 "the guest is not on the paths") (by decide +kernel), rfl⟩
theorem lk_X6_281 : Cond.fieldLink RX6 281 RX6 "takenOut" "J" ∈ gT := gT_at 65 (by decide +kernel) (by decide +kernel)
theorem lk_X6_284 : Cond.fieldLink RX6 284 RX1 "money" "I" ∈ gT := gT_at 807 (by decide +kernel) (by decide +kernel)
theorem lm_X6_287 : gLS RX6 287 yX6_lineAt cX6_lineAt 3 ((Option.some (FieldType.object "Coasterland$Line"))) 2 := ⟨gT_at 861 (by decide +kernel) (by decide +kernel), gT_at 862 (by decide +kernel) (by decide +kernel), gT_at 19 (by decide +kernel) (by decide +kernel), gT_at 863 (by decide +kernel) (by decide +kernel), rfl, by decide +kernel, by decide +kernel, by decide +kernel⟩
theorem lm_X6_291 : gLV RX6 291 RX1 yX1_mayQueue cX1_mayQueue 2 ((Option.some FieldType.boolean)) 1 := ⟨gT_at 869 (by decide +kernel) (by decide +kernel), gT_at 870 (by decide +kernel) (by decide +kernel), gT_at 871 (by decide +kernel) (by decide +kernel), gT_at 36 (by decide +kernel) (by decide +kernel), gT_at 872 (by decide +kernel) (by decide +kernel), rfl, by decide +kernel, by decide +kernel, by decide +kernel⟩
theorem lm_X6_295 : gLV RX6 295 RX1 yX1_canUseReturn cX1_canUseReturn 3 ((Option.some FieldType.boolean)) 2 := ⟨gT_at 873 (by decide +kernel) (by decide +kernel), gT_at 874 (by decide +kernel) (by decide +kernel), gT_at 875 (by decide +kernel) (by decide +kernel), gT_at 36 (by decide +kernel) (by decide +kernel), gT_at 876 (by decide +kernel) (by decide +kernel), rfl, by decide +kernel, by decide +kernel, by decide +kernel⟩
theorem ls_X6_298 : (RX6, 298, "the guest cannot queue") ∈ gStrs := List.mem_filterMap.mpr ⟨_, List.mem_of_getElem? (i := 859) (a := Cond.stringRef "Coasterland" 298 "the guest cannot queue") (by decide +kernel), rfl⟩
theorem lk_X6_300 : Cond.fieldLink RX6 300 RX1 "returnRide" "I" ∈ gT := gT_at 819 (by decide +kernel) (by decide +kernel)
theorem lk_X6_303 : Cond.fieldLink RX6 303 RX3 "price" "I" ∈ gT := gT_at 290 (by decide +kernel) (by decide +kernel)
theorem lm_X6_306 : gLV RX6 306 RX1 yX1_joinLine cX1_joinLine 3 ((Option.none : Option FieldType)) 2 := ⟨gT_at 878 (by decide +kernel) (by decide +kernel), gT_at 879 (by decide +kernel) (by decide +kernel), gT_at 880 (by decide +kernel) (by decide +kernel), gT_at 36 (by decide +kernel) (by decide +kernel), gT_at 881 (by decide +kernel) (by decide +kernel), rfl, by decide +kernel, by decide +kernel, by decide +kernel⟩
theorem lk_X6_310 : Cond.fieldLink RX6 310 RX6 "takenIn" "J" ∈ gT := gT_at 64 (by decide +kernel) (by decide +kernel)
theorem lk_X6_313 : Cond.fieldLink RX6 313 RX2 "size" "I" ∈ gT := gT_at 279 (by decide +kernel) (by decide +kernel)
theorem ls_X6_318 : (RX6, 318, "the guest is in no queue") ∈ gStrs := List.mem_filterMap.mpr ⟨_, List.mem_of_getElem? (i := 872) (a := Cond.stringRef "Coasterland" 318 "the guest is in no queue") (by decide +kernel), rfl⟩
theorem lm_X6_320 : gLV RX6 320 RX1 yX1_leaveLine cX1_leaveLine 1 ((Option.some FieldType.int)) 0 := ⟨gT_at 891 (by decide +kernel) (by decide +kernel), gT_at 892 (by decide +kernel) (by decide +kernel), gT_at 893 (by decide +kernel) (by decide +kernel), gT_at 36 (by decide +kernel) (by decide +kernel), gT_at 894 (by decide +kernel) (by decide +kernel), rfl, by decide +kernel, by decide +kernel, by decide +kernel⟩
theorem ls_X6_323 : (RX6, 323, "the guest is out") ∈ gStrs := List.mem_filterMap.mpr ⟨_, List.mem_of_getElem? (i := 882) (a := Cond.stringRef "Coasterland" 323 "the guest is out") (by decide +kernel), rfl⟩
theorem lk_X6_325 : Cond.fieldLink RX6 325 RX3 "longLine" "LCoasterland$Line;" ∈ gT := gT_at 297 (by decide +kernel) (by decide +kernel)
theorem lk_X6_329 : Cond.fieldLink RX6 329 RX1 "returnTick" "I" ∈ gT := gT_at 821 (by decide +kernel) (by decide +kernel)
theorem ls_X6_332 : (RX6, 332, "the guest cannot eat") ∈ gStrs := List.mem_filterMap.mpr ⟨_, List.mem_of_getElem? (i := 887) (a := Cond.stringRef "Coasterland" 332 "the guest cannot eat") (by decide +kernel), rfl⟩
theorem lm_X6_334 : gLV RX6 334 RX1 yX1_haveMeal cX1_haveMeal 1 ((Option.none : Option FieldType)) 0 := ⟨gT_at 906 (by decide +kernel) (by decide +kernel), gT_at 907 (by decide +kernel) (by decide +kernel), gT_at 908 (by decide +kernel) (by decide +kernel), gT_at 36 (by decide +kernel) (by decide +kernel), gT_at 909 (by decide +kernel) (by decide +kernel), rfl, by decide +kernel, by decide +kernel, by decide +kernel⟩
-- constant: Coasterland 337 long 5l
theorem lk_X6_339 : Cond.fieldLink RX6 339 RX1 "hunger" "I" ∈ gT := gT_at 811 (by decide +kernel) (by decide +kernel)
theorem lm_X6_342 : gLS RX6 342 yX6_checkBlock cX6_checkBlock 2 ((Option.none : Option FieldType)) 2 := ⟨gT_at 923 (by decide +kernel) (by decide +kernel), gT_at 924 (by decide +kernel) (by decide +kernel), gT_at 19 (by decide +kernel) (by decide +kernel), gT_at 925 (by decide +kernel) (by decide +kernel), rfl, by decide +kernel, by decide +kernel, by decide +kernel⟩
theorem ls_X6_346 : (RX6, 346, "the ring is not closed") ∈ gStrs := List.mem_filterMap.mpr ⟨_, List.mem_of_getElem? (i := 908) (a := Cond.stringRef "Coasterland" 346 "the ring is not closed") (by decide +kernel), rfl⟩
theorem lm_X6_348 : gLV RX6 348 RX4 yX4_forceOfRun cX4_forceOfRun 8 ((Option.some FieldType.int)) 2 := ⟨gT_at 927 (by decide +kernel) (by decide +kernel), gT_at 928 (by decide +kernel) (by decide +kernel), gT_at 929 (by decide +kernel) (by decide +kernel), gT_at 29 (by decide +kernel) (by decide +kernel), gT_at 930 (by decide +kernel) (by decide +kernel), rfl, by decide +kernel, by decide +kernel, by decide +kernel⟩
theorem lm_X6_352 : gLV RX6 352 RX3 yX3_isSeen cX3_isSeen 3 ((Option.some FieldType.boolean)) 2 := ⟨gT_at 939 (by decide +kernel) (by decide +kernel), gT_at 940 (by decide +kernel) (by decide +kernel), gT_at 941 (by decide +kernel) (by decide +kernel), gT_at 28 (by decide +kernel) (by decide +kernel), gT_at 942 (by decide +kernel) (by decide +kernel), rfl, by decide +kernel, by decide +kernel, by decide +kernel⟩
theorem lk_X6_355 : Cond.fieldLink RX6 355 RX5 "energyIn" "I" ∈ gT := gT_at 469 (by decide +kernel) (by decide +kernel)
theorem lk_X6_358 : Cond.fieldLink RX6 358 RX5 "riderCount" "I" ∈ gT := gT_at 464 (by decide +kernel) (by decide +kernel)
theorem lk_X6_361 : Cond.fieldLink RX6 361 RX1 "nausea" "I" ∈ gT := gT_at 813 (by decide +kernel) (by decide +kernel)
theorem lk_X6_364 : Cond.fieldLink RX6 364 RX1 "ridesDone" "I" ∈ gT := gT_at 815 (by decide +kernel) (by decide +kernel)
theorem ls_X6_367 : (RX6, 367, "no such number of a guest") ∈ gStrs := List.mem_filterMap.mpr ⟨_, List.mem_of_getElem? (i := 957) (a := Cond.stringRef "Coasterland" 367 "no such number of a guest") (by decide +kernel), rfl⟩
theorem lm_X6_369 : gLV RX6 369 RX1 yX1_isHungrierThan cX1_isHungrierThan 2 ((Option.some FieldType.boolean)) 1 := ⟨gT_at 980 (by decide +kernel) (by decide +kernel), gT_at 981 (by decide +kernel) (by decide +kernel), gT_at 982 (by decide +kernel) (by decide +kernel), gT_at 36 (by decide +kernel) (by decide +kernel), gT_at 983 (by decide +kernel) (by decide +kernel), rfl, by decide +kernel, by decide +kernel, by decide +kernel⟩
theorem lc_X6_373 : Cond.classLink RX6 373 "java/util/NoSuchElementException" ∈ gT := gT_at 984 (by decide +kernel) (by decide +kernel)
theorem ls_X6_375 : (RX6, 375, "none is on the paths") ∈ gStrs := List.mem_filterMap.mpr ⟨_, List.mem_of_getElem? (i := 975) (a := Cond.stringRef "Coasterland" 375 "none is on the paths") (by decide +kernel), rfl⟩
-- other method: Coasterland 377 java/util/NoSuchElementException.<init>(Ljava/lang/String;)V
theorem lk_X6_378 : Cond.fieldLink RX6 378 RX3 "leftAtAll" "I" ∈ gT := gT_at 307 (by decide +kernel) (by decide +kernel)
theorem lm_X6_381 : gLV RX6 381 RX6 yX6_moneyOfGuestsInside cX6_moneyOfGuestsInside 7 ((Option.some FieldType.long)) 0 := ⟨gT_at 102 (by decide +kernel) (by decide +kernel), gT_at 104 (by decide +kernel) (by decide +kernel), gT_at 0 (by decide +kernel) (by decide +kernel), gT_at 19 (by decide +kernel) (by decide +kernel), gT_at 105 (by decide +kernel) (by decide +kernel), rfl, by decide +kernel, by decide +kernel, by decide +kernel⟩
theorem lm_X6_396 : gLV RX6 396 RX3 yX3_areHoldsSound cX3_areHoldsSound 6 ((Option.some FieldType.boolean)) 0 := ⟨gT_at 1033 (by decide +kernel) (by decide +kernel), gT_at 1034 (by decide +kernel) (by decide +kernel), gT_at 1035 (by decide +kernel) (by decide +kernel), gT_at 28 (by decide +kernel) (by decide +kernel), gT_at 1036 (by decide +kernel) (by decide +kernel), rfl, by decide +kernel, by decide +kernel, by decide +kernel⟩
theorem lm_X6_399 : gLV RX6 399 RX6 yX6_isInOnePlace cX6_isInOnePlace 8 ((Option.some FieldType.boolean)) 1 := ⟨gT_at 1037 (by decide +kernel) (by decide +kernel), gT_at 1039 (by decide +kernel) (by decide +kernel), gT_at 17 (by decide +kernel) (by decide +kernel), gT_at 19 (by decide +kernel) (by decide +kernel), gT_at 1040 (by decide +kernel) (by decide +kernel), rfl, by decide +kernel, by decide +kernel, by decide +kernel⟩
theorem lc_X6_402 : Cond.classLink RX6 402 "java/lang/IndexOutOfBoundsException" ∈ gT := gT_at 351 (by decide +kernel) (by decide +kernel)
theorem ls_X6_404 : (RX6, 404, "no such ride") ∈ gStrs := List.mem_filterMap.mpr ⟨_, List.mem_of_getElem? (i := 342) (a := Cond.stringRef "Coasterland" 404 "no such ride") (by decide +kernel), rfl⟩
-- other method: Coasterland 406 java/lang/IndexOutOfBoundsException.<init>(Ljava/lang/String;)V
theorem lm_X6_407 : gLV RX6 407 RX4 yX4_blockOrNull cX4_blockOrNull 2 ((Option.some (FieldType.object "Coasterland$Block"))) 1 := ⟨gT_at 581 (by decide +kernel) (by decide +kernel), gT_at 426 (by decide +kernel) (by decide +kernel), gT_at 427 (by decide +kernel) (by decide +kernel), gT_at 29 (by decide +kernel) (by decide +kernel), gT_at 428 (by decide +kernel) (by decide +kernel), rfl, by decide +kernel, by decide +kernel, by decide +kernel⟩
theorem ls_X6_411 : (RX6, 411, "no such processor") ∈ gStrs := List.mem_filterMap.mpr ⟨_, List.mem_of_getElem? (i := 567) (a := Cond.stringRef "Coasterland" 411 "no such processor") (by decide +kernel), rfl⟩
theorem lm_X6_413 : gLV RX6 413 RX3 yX3_trainOrNull cX3_trainOrNull 2 ((Option.some (FieldType.object "Coasterland$Train"))) 1 := ⟨gT_at 744 (by decide +kernel) (by decide +kernel), gT_at 745 (by decide +kernel) (by decide +kernel), gT_at 746 (by decide +kernel) (by decide +kernel), gT_at 28 (by decide +kernel) (by decide +kernel), gT_at 747 (by decide +kernel) (by decide +kernel), rfl, by decide +kernel, by decide +kernel, by decide +kernel⟩
theorem ls_X6_417 : (RX6, 417, "no such train") ∈ gStrs := List.mem_filterMap.mpr ⟨_, List.mem_of_getElem? (i := 730) (a := Cond.stringRef "Coasterland" 417 "no such train") (by decide +kernel), rfl⟩
theorem lm_X6_419 : gLV RX6 419 RX3 yX3_lineOrNull cX3_lineOrNull 2 ((Option.some (FieldType.object "Coasterland$Line"))) 1 := ⟨gT_at 864 (by decide +kernel) (by decide +kernel), gT_at 865 (by decide +kernel) (by decide +kernel), gT_at 866 (by decide +kernel) (by decide +kernel), gT_at 28 (by decide +kernel) (by decide +kernel), gT_at 867 (by decide +kernel) (by decide +kernel), rfl, by decide +kernel, by decide +kernel, by decide +kernel⟩
theorem ls_X6_423 : (RX6, 423, "no such queue") ∈ gStrs := List.mem_filterMap.mpr ⟨_, List.mem_of_getElem? (i := 850) (a := Cond.stringRef "Coasterland" 423 "no such queue") (by decide +kernel), rfl⟩
theorem ls_X6_425 : (RX6, 425, "no such guest") ∈ gStrs := List.mem_filterMap.mpr ⟨_, List.mem_of_getElem? (i := 837) (a := Cond.stringRef "Coasterland" 425 "no such guest") (by decide +kernel), rfl⟩
theorem ls_X6_427 : (RX6, 427, "no such member of staff") ∈ gStrs := List.mem_filterMap.mpr ⟨_, List.mem_of_getElem? (i := 521) (a := Cond.stringRef "Coasterland" 427 "no such member of staff") (by decide +kernel), rfl⟩
theorem lm_X6_429 : gLV RX6 429 RX3 yX3_countInLines cX3_countInLines 2 ((Option.some FieldType.int)) 1 := ⟨gT_at 1041 (by decide +kernel) (by decide +kernel), gT_at 1042 (by decide +kernel) (by decide +kernel), gT_at 1043 (by decide +kernel) (by decide +kernel), gT_at 28 (by decide +kernel) (by decide +kernel), gT_at 1044 (by decide +kernel) (by decide +kernel), rfl, by decide +kernel, by decide +kernel, by decide +kernel⟩
theorem lm_X6_433 : gLV RX6 433 RX3 yX3_countInTrains cX3_countInTrains 7 ((Option.some FieldType.int)) 1 := ⟨gT_at 1049 (by decide +kernel) (by decide +kernel), gT_at 1050 (by decide +kernel) (by decide +kernel), gT_at 1051 (by decide +kernel) (by decide +kernel), gT_at 28 (by decide +kernel) (by decide +kernel), gT_at 1052 (by decide +kernel) (by decide +kernel), rfl, by decide +kernel, by decide +kernel, by decide +kernel⟩
-- other method: Coasterland$Block 3 java/lang/Object.<init>()V
theorem lk_X0_9 : Cond.fieldLink RX0 9 RX0 "sensor0" "C" ∈ gT := gT_at 398 (by decide +kernel) (by decide +kernel)
theorem lk_X0_15 : Cond.fieldLink RX0 15 RX0 "sensor1" "C" ∈ gT := gT_at 399 (by decide +kernel) (by decide +kernel)
theorem lk_X0_18 : Cond.fieldLink RX0 18 RX0 "kind" "C" ∈ gT := gT_at 391 (by decide +kernel) (by decide +kernel)
theorem lk_X0_21 : Cond.fieldLink RX0 21 RX0 "length" "I" ∈ gT := gT_at 394 (by decide +kernel) (by decide +kernel)
theorem lk_X0_25 : Cond.fieldLink RX0 25 RX0 "rise" "I" ∈ gT := gT_at 395 (by decide +kernel) (by decide +kernel)
theorem lk_X0_28 : Cond.fieldLink RX0 28 RX0 "bend" "I" ∈ gT := gT_at 397 (by decide +kernel) (by decide +kernel)
theorem lm_X0_31 : gLV RX0 31 RX0 yX0_isStop cX0_isStop 1 ((Option.some FieldType.boolean)) 0 := ⟨gT_at 656 (by decide +kernel) (by decide +kernel), gT_at 435 (by decide +kernel) (by decide +kernel), gT_at 436 (by decide +kernel) (by decide +kernel), gT_at 32 (by decide +kernel) (by decide +kernel), gT_at 437 (by decide +kernel) (by decide +kernel), rfl, by decide +kernel, by decide +kernel, by decide +kernel⟩
theorem lm_X0_35 : gLV RX0 35 RX0 yX0_sensor cX0_sensor 2 ((Option.some FieldType.char)) 1 := ⟨gT_at 521 (by decide +kernel) (by decide +kernel), gT_at 522 (by decide +kernel) (by decide +kernel), gT_at 523 (by decide +kernel) (by decide +kernel), gT_at 32 (by decide +kernel) (by decide +kernel), gT_at 524 (by decide +kernel) (by decide +kernel), rfl, by decide +kernel, by decide +kernel, by decide +kernel⟩
-- other method: Coasterland$Guest 3 java/lang/Object.<init>()V
theorem lk_X1_9 : Cond.fieldLink RX1 9 RX1 "place" "C" ∈ gT := gT_at 816 (by decide +kernel) (by decide +kernel)
theorem lk_X1_15 : Cond.fieldLink RX1 15 RX1 "returnRide" "I" ∈ gT := gT_at 818 (by decide +kernel) (by decide +kernel)
theorem lk_X1_19 : Cond.fieldLink RX1 19 RX1 "money" "I" ∈ gT := gT_at 806 (by decide +kernel) (by decide +kernel)
theorem lk_X1_22 : Cond.fieldLink RX1 22 RX1 "height" "I" ∈ gT := gT_at 808 (by decide +kernel) (by decide +kernel)
theorem lk_X1_25 : Cond.fieldLink RX1 25 RX1 "group" "I" ∈ gT := gT_at 809 (by decide +kernel) (by decide +kernel)
theorem lk_X1_28 : Cond.fieldLink RX1 28 RX3 "height" "I" ∈ gT := gT_at 286 (by decide +kernel) (by decide +kernel)
theorem lk_X1_31 : Cond.fieldLink RX1 31 RX3 "price" "I" ∈ gT := gT_at 289 (by decide +kernel) (by decide +kernel)
theorem lk_X1_34 : Cond.fieldLink RX1 34 RX1 "nausea" "I" ∈ gT := gT_at 812 (by decide +kernel) (by decide +kernel)
theorem lk_X1_37 : Cond.fieldLink RX1 37 RX1 "returnTick" "I" ∈ gT := gT_at 820 (by decide +kernel) (by decide +kernel)
theorem lm_X1_40 : gLV RX1 40 RX2 yX2_append cX2_append 2 ((Option.none : Option FieldType)) 1 := ⟨gT_at 882 (by decide +kernel) (by decide +kernel), gT_at 883 (by decide +kernel) (by decide +kernel), gT_at 884 (by decide +kernel) (by decide +kernel), gT_at 30 (by decide +kernel) (by decide +kernel), gT_at 885 (by decide +kernel) (by decide +kernel), rfl, by decide +kernel, by decide +kernel, by decide +kernel⟩
theorem lk_X1_46 : Cond.fieldLink RX1 46 RX1 "line" "LCoasterland$Line;" ∈ gT := gT_at 822 (by decide +kernel) (by decide +kernel)
theorem lk_X1_50 : Cond.fieldLink RX1 50 RX1 "paid" "I" ∈ gT := gT_at 823 (by decide +kernel) (by decide +kernel)
theorem lm_X1_53 : gLV RX1 53 RX2 yX2_takeOut cX2_takeOut 3 ((Option.none : Option FieldType)) 1 := ⟨gT_at 895 (by decide +kernel) (by decide +kernel), gT_at 698 (by decide +kernel) (by decide +kernel), gT_at 699 (by decide +kernel) (by decide +kernel), gT_at 30 (by decide +kernel) (by decide +kernel), gT_at 700 (by decide +kernel) (by decide +kernel), rfl, by decide +kernel, by decide +kernel, by decide +kernel⟩
theorem lk_X1_56 : Cond.fieldLink RX1 56 RX1 "hunger" "I" ∈ gT := gT_at 810 (by decide +kernel) (by decide +kernel)
-- other method: Coasterland$Guest 59 java/lang/Math.max(II)I
-- other method: Coasterland$Guest 65 java/lang/Math.min(II)I
theorem lk_X1_68 : Cond.fieldLink RX1 68 RX1 "ridesDone" "I" ∈ gT := gT_at 814 (by decide +kernel) (by decide +kernel)
-- other method: Coasterland$Line 3 java/lang/Object.<init>()V
theorem lc_X2_9 : Cond.classLink RX2 9 "Coasterland$Guest" ∈ gT := gT_at 276 (by decide +kernel) (by decide +kernel)
theorem lk_X2_11 : Cond.fieldLink RX2 11 RX2 "places" "[LCoasterland$Guest;" ∈ gT := gT_at 277 (by decide +kernel) (by decide +kernel)
theorem lk_X2_17 : Cond.fieldLink RX2 17 RX2 "size" "I" ∈ gT := gT_at 278 (by decide +kernel) (by decide +kernel)
theorem lm_X2_21 : gLV RX2 21 RX1 yX1_comesWith cX1_comesWith 2 ((Option.some FieldType.boolean)) 1 := ⟨gT_at 721 (by decide +kernel) (by decide +kernel), gT_at 722 (by decide +kernel) (by decide +kernel), gT_at 723 (by decide +kernel) (by decide +kernel), gT_at 36 (by decide +kernel) (by decide +kernel), gT_at 724 (by decide +kernel) (by decide +kernel), rfl, by decide +kernel, by decide +kernel, by decide +kernel⟩
theorem lm_X2_25 : gLV RX2 25 RX2 yX2_takeAt cX2_takeAt 3 ((Option.none : Option FieldType)) 1 := ⟨gT_at 701 (by decide +kernel) (by decide +kernel), gT_at 703 (by decide +kernel) (by decide +kernel), gT_at 11 (by decide +kernel) (by decide +kernel), gT_at 30 (by decide +kernel) (by decide +kernel), gT_at 704 (by decide +kernel) (by decide +kernel), rfl, by decide +kernel, by decide +kernel, by decide +kernel⟩
-- other method: Coasterland$Ride 3 java/lang/Object.<init>()V
theorem lc_X3_9 : Cond.classLink RX3 9 "Coasterland$Ring" ∈ gT := gT_at 247 (by decide +kernel) (by decide +kernel)
theorem lm_X3_11 : gLN RX3 11 yX4_init "Coasterland" cX4_init 1 0 := ⟨List.mem_filter.mpr ⟨List.mem_of_getElem? (i := 231) (by decide +kernel), rfl⟩, gT_at 250 (by decide +kernel) (by decide +kernel), gT_at 29 (by decide +kernel) (by decide +kernel), gT_at 251 (by decide +kernel) (by decide +kernel), rfl, by decide +kernel, by decide +kernel, by decide +kernel⟩
theorem lk_X3_12 : Cond.fieldLink RX3 12 RX3 "ring" "LCoasterland$Ring;" ∈ gT := gT_at 291 (by decide +kernel) (by decide +kernel)
theorem lc_X3_18 : Cond.classLink RX3 18 "Coasterland$Train" ∈ gT := gT_at 268 (by decide +kernel) (by decide +kernel)
theorem lk_X3_20 : Cond.fieldLink RX3 20 RX3 "trains" "[LCoasterland$Train;" ∈ gT := gT_at 293 (by decide +kernel) (by decide +kernel)
theorem lc_X3_24 : Cond.classLink RX3 24 "Coasterland$Line" ∈ gT := gT_at 270 (by decide +kernel) (by decide +kernel)
theorem lm_X3_26 : gLN RX3 26 yX2_init "Coasterland" cX2_init 1 0 := ⟨List.mem_filter.mpr ⟨List.mem_of_getElem? (i := 254) (by decide +kernel), rfl⟩, gT_at 273 (by decide +kernel) (by decide +kernel), gT_at 30 (by decide +kernel) (by decide +kernel), gT_at 274 (by decide +kernel) (by decide +kernel), rfl, by decide +kernel, by decide +kernel, by decide +kernel⟩
theorem lk_X3_27 : Cond.fieldLink RX3 27 RX3 "longLine" "LCoasterland$Line;" ∈ gT := gT_at 296 (by decide +kernel) (by decide +kernel)
theorem lk_X3_31 : Cond.fieldLink RX3 31 RX3 "singles" "LCoasterland$Line;" ∈ gT := gT_at 298 (by decide +kernel) (by decide +kernel)
theorem lk_X3_34 : Cond.fieldLink RX3 34 RX3 "returns" "LCoasterland$Line;" ∈ gT := gT_at 299 (by decide +kernel) (by decide +kernel)
theorem lk_X3_37 : Cond.fieldLink RX3 37 RX3 "operator" "I" ∈ gT := gT_at 300 (by decide +kernel) (by decide +kernel)
theorem lk_X3_41 : Cond.fieldLink RX3 41 RX3 "height" "I" ∈ gT := gT_at 285 (by decide +kernel) (by decide +kernel)
theorem lk_X3_44 : Cond.fieldLink RX3 44 RX3 "windLimit" "I" ∈ gT := gT_at 287 (by decide +kernel) (by decide +kernel)
theorem lk_X3_47 : Cond.fieldLink RX3 47 RX3 "price" "I" ∈ gT := gT_at 288 (by decide +kernel) (by decide +kernel)
theorem lk_X3_50 : Cond.fieldLink RX3 50 RX3 "trainCount" "I" ∈ gT := gT_at 294 (by decide +kernel) (by decide +kernel)
theorem lk_X3_53 : Cond.fieldLink RX3 53 RX3 "locks" "I" ∈ gT := gT_at 308 (by decide +kernel) (by decide +kernel)
theorem lk_X3_56 : Cond.fieldLink RX3 56 RX5 "block" "I" ∈ gT := gT_at 466 (by decide +kernel) (by decide +kernel)
theorem lm_X3_59 : gLV RX3 59 RX3 yX3_trainIn cX3_trainIn 6 ((Option.some (FieldType.object "Coasterland$Train"))) 1 := ⟨gT_at 627 (by decide +kernel) (by decide +kernel), gT_at 628 (by decide +kernel) (by decide +kernel), gT_at 629 (by decide +kernel) (by decide +kernel), gT_at 28 (by decide +kernel) (by decide +kernel), gT_at 630 (by decide +kernel) (by decide +kernel), rfl, by decide +kernel, by decide +kernel, by decide +kernel⟩
theorem lk_X3_63 : Cond.fieldLink RX3 63 RX5 "state" "C" ∈ gT := gT_at 471 (by decide +kernel) (by decide +kernel)
theorem lm_X3_67 : gLV RX3 67 RX3 yX3_countTrains cX3_countTrains 7 ((Option.some FieldType.int)) 1 := ⟨gT_at 601 (by decide +kernel) (by decide +kernel), gT_at 602 (by decide +kernel) (by decide +kernel), gT_at 603 (by decide +kernel) (by decide +kernel), gT_at 28 (by decide +kernel) (by decide +kernel), gT_at 604 (by decide +kernel) (by decide +kernel), rfl, by decide +kernel, by decide +kernel, by decide +kernel⟩
theorem lm_X3_71 : gLV RX3 71 RX5 yX5_holds cX5_holds 2 ((Option.some FieldType.boolean)) 1 := ⟨gT_at 447 (by decide +kernel) (by decide +kernel), gT_at 448 (by decide +kernel) (by decide +kernel), gT_at 449 (by decide +kernel) (by decide +kernel), gT_at 33 (by decide +kernel) (by decide +kernel), gT_at 450 (by decide +kernel) (by decide +kernel), rfl, by decide +kernel, by decide +kernel, by decide +kernel⟩
theorem lm_X3_75 : gLV RX3 75 RX3 yX3_blocksWithTrains cX3_blocksWithTrains 6 ((Option.some FieldType.int)) 0 := ⟨gT_at 512 (by decide +kernel) (by decide +kernel), gT_at 514 (by decide +kernel) (by decide +kernel), gT_at 4 (by decide +kernel) (by decide +kernel), gT_at 28 (by decide +kernel) (by decide +kernel), gT_at 515 (by decide +kernel) (by decide +kernel), rfl, by decide +kernel, by decide +kernel, by decide +kernel⟩
theorem lk_X3_79 : Cond.fieldLink RX3 79 RX4 "blockCount" "I" ∈ gT := gT_at 258 (by decide +kernel) (by decide +kernel)
theorem lm_X3_82 : gLV RX3 82 RX4 yX4_blockOrNull cX4_blockOrNull 2 ((Option.some (FieldType.object "Coasterland$Block"))) 1 := ⟨gT_at 516 (by decide +kernel) (by decide +kernel), gT_at 426 (by decide +kernel) (by decide +kernel), gT_at 427 (by decide +kernel) (by decide +kernel), gT_at 29 (by decide +kernel) (by decide +kernel), gT_at 428 (by decide +kernel) (by decide +kernel), rfl, by decide +kernel, by decide +kernel, by decide +kernel⟩
theorem lm_X3_86 : gLV RX3 86 RX0 yX0_isSeenBy cX0_isSeenBy 4 ((Option.some FieldType.boolean)) 2 := ⟨gT_at 517 (by decide +kernel) (by decide +kernel), gT_at 518 (by decide +kernel) (by decide +kernel), gT_at 519 (by decide +kernel) (by decide +kernel), gT_at 32 (by decide +kernel) (by decide +kernel), gT_at 520 (by decide +kernel) (by decide +kernel), rfl, by decide +kernel, by decide +kernel, by decide +kernel⟩
theorem lm_X3_92 : gLV RX3 92 RX3 yX3_blocksSeenBy cX3_blocksSeenBy 6 ((Option.some FieldType.int)) 1 := ⟨gT_at 508 (by decide +kernel) (by decide +kernel), gT_at 510 (by decide +kernel) (by decide +kernel), gT_at 3 (by decide +kernel) (by decide +kernel), gT_at 28 (by decide +kernel) (by decide +kernel), gT_at 511 (by decide +kernel) (by decide +kernel), rfl, by decide +kernel, by decide +kernel, by decide +kernel⟩
theorem lm_X3_96 : gLV RX3 96 RX3 yX3_processorsDiffer cX3_processorsDiffer 1 ((Option.some FieldType.boolean)) 0 := ⟨gT_at 504 (by decide +kernel) (by decide +kernel), gT_at 505 (by decide +kernel) (by decide +kernel), gT_at 506 (by decide +kernel) (by decide +kernel), gT_at 28 (by decide +kernel) (by decide +kernel), gT_at 507 (by decide +kernel) (by decide +kernel), rfl, by decide +kernel, by decide +kernel, by decide +kernel⟩
theorem lk_X3_100 : Cond.fieldLink RX3 100 RX3 "tripped" "Z" ∈ gT := gT_at 311 (by decide +kernel) (by decide +kernel)
theorem lm_X3_104 : gLV RX3 104 RX3 yX3_trainInStation cX3_trainInStation 2 ((Option.some (FieldType.object "Coasterland$Train"))) 0 := ⟨gT_at 639 (by decide +kernel) (by decide +kernel), gT_at 624 (by decide +kernel) (by decide +kernel), gT_at 625 (by decide +kernel) (by decide +kernel), gT_at 28 (by decide +kernel) (by decide +kernel), gT_at 626 (by decide +kernel) (by decide +kernel), rfl, by decide +kernel, by decide +kernel, by decide +kernel⟩
theorem lk_X3_108 : Cond.fieldLink RX3 108 RX4 "closed" "Z" ∈ gT := gT_at 260 (by decide +kernel) (by decide +kernel)
theorem lk_X3_111 : Cond.fieldLink RX3 111 RX3 "inspected" "Z" ∈ gT := gT_at 303 (by decide +kernel) (by decide +kernel)
theorem lk_X3_114 : Cond.fieldLink RX3 114 RX3 "leftSinceInspection" "I" ∈ gT := gT_at 305 (by decide +kernel) (by decide +kernel)
theorem lm_X3_117 : gLV RX3 117 RX3 yX3_whatKeepsInStop cX3_whatKeepsInStop 3 ((Option.some FieldType.char)) 2 := ⟨gT_at 640 (by decide +kernel) (by decide +kernel), gT_at 642 (by decide +kernel) (by decide +kernel), gT_at 9 (by decide +kernel) (by decide +kernel), gT_at 28 (by decide +kernel) (by decide +kernel), gT_at 643 (by decide +kernel) (by decide +kernel), rfl, by decide +kernel, by decide +kernel, by decide +kernel⟩
theorem lm_X3_121 : gLV RX3 121 RX4 yX4_isRunBad cX4_isRunBad 9 ((Option.some FieldType.boolean)) 2 := ⟨gT_at 644 (by decide +kernel) (by decide +kernel), gT_at 645 (by decide +kernel) (by decide +kernel), gT_at 646 (by decide +kernel) (by decide +kernel), gT_at 29 (by decide +kernel) (by decide +kernel), gT_at 647 (by decide +kernel) (by decide +kernel), rfl, by decide +kernel, by decide +kernel, by decide +kernel⟩
theorem lm_X3_125 : gLV RX3 125 RX3 yX3_isPathFree cX3_isPathFree 7 ((Option.some FieldType.boolean)) 1 := ⟨gT_at 661 (by decide +kernel) (by decide +kernel), gT_at 663 (by decide +kernel) (by decide +kernel), gT_at 10 (by decide +kernel) (by decide +kernel), gT_at 28 (by decide +kernel) (by decide +kernel), gT_at 664 (by decide +kernel) (by decide +kernel), rfl, by decide +kernel, by decide +kernel, by decide +kernel⟩
theorem lm_X3_129 : gLV RX3 129 RX4 yX4_pathBehind cX4_pathBehind 5 ((Option.some FieldType.int)) 1 := ⟨gT_at 665 (by decide +kernel) (by decide +kernel), gT_at 666 (by decide +kernel) (by decide +kernel), gT_at 667 (by decide +kernel) (by decide +kernel), gT_at 29 (by decide +kernel) (by decide +kernel), gT_at 668 (by decide +kernel) (by decide +kernel), rfl, by decide +kernel, by decide +kernel, by decide +kernel⟩
theorem lk_X3_132 : Cond.fieldLink RX3 132 RX5 "held" "I" ∈ gT := gT_at 474 (by decide +kernel) (by decide +kernel)
theorem lm_X3_135 : gLV RX3 135 RX5 yX5_leaveStop cX5_leaveStop 2 ((Option.none : Option FieldType)) 1 := ⟨gT_at 678 (by decide +kernel) (by decide +kernel), gT_at 679 (by decide +kernel) (by decide +kernel), gT_at 680 (by decide +kernel) (by decide +kernel), gT_at 33 (by decide +kernel) (by decide +kernel), gT_at 681 (by decide +kernel) (by decide +kernel), rfl, by decide +kernel, by decide +kernel, by decide +kernel⟩
theorem lk_X3_139 : Cond.fieldLink RX3 139 RX3 "leftAtAll" "I" ∈ gT := gT_at 306 (by decide +kernel) (by decide +kernel)
theorem lm_X3_142 : gLV RX3 142 RX5 yX5_moveOn cX5_moveOn 6 ((Option.none : Option FieldType)) 2 := ⟨gT_at 778 (by decide +kernel) (by decide +kernel), gT_at 779 (by decide +kernel) (by decide +kernel), gT_at 780 (by decide +kernel) (by decide +kernel), gT_at 33 (by decide +kernel) (by decide +kernel), gT_at 781 (by decide +kernel) (by decide +kernel), rfl, by decide +kernel, by decide +kernel, by decide +kernel⟩
theorem lk_X3_146 : Cond.fieldLink RX3 146 RX5 "riderCount" "I" ∈ gT := gT_at 463 (by decide +kernel) (by decide +kernel)
theorem lm_X3_149 : gLS RX3 149 yX3_boardOneByOne cX3_boardOneByOne 4 ((Option.none : Option FieldType)) 2 := ⟨gT_at 686 (by decide +kernel) (by decide +kernel), gT_at 687 (by decide +kernel) (by decide +kernel), gT_at 28 (by decide +kernel) (by decide +kernel), gT_at 688 (by decide +kernel) (by decide +kernel), rfl, by decide +kernel, by decide +kernel, by decide +kernel⟩
theorem lm_X3_153 : gLV RX3 153 RX3 yX3_boardParties cX3_boardParties 6 ((Option.none : Option FieldType)) 1 := ⟨gT_at 713 (by decide +kernel) (by decide +kernel), gT_at 715 (by decide +kernel) (by decide +kernel), gT_at 12 (by decide +kernel) (by decide +kernel), gT_at 28 (by decide +kernel) (by decide +kernel), gT_at 716 (by decide +kernel) (by decide +kernel), rfl, by decide +kernel, by decide +kernel, by decide +kernel⟩
theorem lm_X3_157 : gLV RX3 157 RX5 yX5_freeSeats cX5_freeSeats 1 ((Option.some FieldType.int)) 0 := ⟨gT_at 689 (by decide +kernel) (by decide +kernel), gT_at 690 (by decide +kernel) (by decide +kernel), gT_at 691 (by decide +kernel) (by decide +kernel), gT_at 33 (by decide +kernel) (by decide +kernel), gT_at 692 (by decide +kernel) (by decide +kernel), rfl, by decide +kernel, by decide +kernel, by decide +kernel⟩
theorem lm_X3_160 : gLV RX3 160 RX2 yX2_first cX2_first 1 ((Option.some (FieldType.object "Coasterland$Guest"))) 0 := ⟨gT_at 693 (by decide +kernel) (by decide +kernel), gT_at 694 (by decide +kernel) (by decide +kernel), gT_at 695 (by decide +kernel) (by decide +kernel), gT_at 30 (by decide +kernel) (by decide +kernel), gT_at 696 (by decide +kernel) (by decide +kernel), rfl, by decide +kernel, by decide +kernel, by decide +kernel⟩
theorem lm_X3_164 : gLV RX3 164 RX2 yX2_takeOut cX2_takeOut 3 ((Option.none : Option FieldType)) 1 := ⟨gT_at 697 (by decide +kernel) (by decide +kernel), gT_at 698 (by decide +kernel) (by decide +kernel), gT_at 699 (by decide +kernel) (by decide +kernel), gT_at 30 (by decide +kernel) (by decide +kernel), gT_at 700 (by decide +kernel) (by decide +kernel), rfl, by decide +kernel, by decide +kernel, by decide +kernel⟩
theorem lm_X3_168 : gLV RX3 168 RX5 yX5_seat cX5_seat 2 ((Option.none : Option FieldType)) 1 := ⟨gT_at 705 (by decide +kernel) (by decide +kernel), gT_at 706 (by decide +kernel) (by decide +kernel), gT_at 707 (by decide +kernel) (by decide +kernel), gT_at 33 (by decide +kernel) (by decide +kernel), gT_at 708 (by decide +kernel) (by decide +kernel), rfl, by decide +kernel, by decide +kernel, by decide +kernel⟩
theorem lm_X3_171 : gLV RX3 171 RX2 yX2_partyOf cX2_partyOf 5 ((Option.some FieldType.int)) 1 := ⟨gT_at 717 (by decide +kernel) (by decide +kernel), gT_at 718 (by decide +kernel) (by decide +kernel), gT_at 719 (by decide +kernel) (by decide +kernel), gT_at 30 (by decide +kernel) (by decide +kernel), gT_at 720 (by decide +kernel) (by decide +kernel), rfl, by decide +kernel, by decide +kernel, by decide +kernel⟩
theorem lm_X3_175 : gLV RX3 175 RX5 yX5_isLargerParty cX5_isLargerParty 2 ((Option.some FieldType.boolean)) 1 := ⟨gT_at 725 (by decide +kernel) (by decide +kernel), gT_at 726 (by decide +kernel) (by decide +kernel), gT_at 727 (by decide +kernel) (by decide +kernel), gT_at 33 (by decide +kernel) (by decide +kernel), gT_at 728 (by decide +kernel) (by decide +kernel), rfl, by decide +kernel, by decide +kernel, by decide +kernel⟩
theorem lm_X3_178 : gLV RX3 178 RX3 yX3_boardParty cX3_boardParty 5 ((Option.none : Option FieldType)) 2 := ⟨gT_at 729 (by decide +kernel) (by decide +kernel), gT_at 731 (by decide +kernel) (by decide +kernel), gT_at 13 (by decide +kernel) (by decide +kernel), gT_at 28 (by decide +kernel) (by decide +kernel), gT_at 732 (by decide +kernel) (by decide +kernel), rfl, by decide +kernel, by decide +kernel, by decide +kernel⟩
theorem lm_X3_182 : gLV RX3 182 RX2 yX2_takeOneOf cX2_takeOneOf 4 ((Option.some (FieldType.object "Coasterland$Guest"))) 1 := ⟨gT_at 733 (by decide +kernel) (by decide +kernel), gT_at 734 (by decide +kernel) (by decide +kernel), gT_at 735 (by decide +kernel) (by decide +kernel), gT_at 30 (by decide +kernel) (by decide +kernel), gT_at 736 (by decide +kernel) (by decide +kernel), rfl, by decide +kernel, by decide +kernel, by decide +kernel⟩
theorem lm_X3_186 : gLV RX3 186 RX2 yX2_countOf cX2_countOf 4 ((Option.some FieldType.int)) 1 := ⟨gT_at 1045 (by decide +kernel) (by decide +kernel), gT_at 1046 (by decide +kernel) (by decide +kernel), gT_at 1047 (by decide +kernel) (by decide +kernel), gT_at 30 (by decide +kernel) (by decide +kernel), gT_at 1048 (by decide +kernel) (by decide +kernel), rfl, by decide +kernel, by decide +kernel, by decide +kernel⟩
theorem lm_X3_189 : gLV RX3 189 RX5 yX5_countOf cX5_countOf 4 ((Option.some FieldType.int)) 1 := ⟨gT_at 1053 (by decide +kernel) (by decide +kernel), gT_at 1054 (by decide +kernel) (by decide +kernel), gT_at 1055 (by decide +kernel) (by decide +kernel), gT_at 33 (by decide +kernel) (by decide +kernel), gT_at 1056 (by decide +kernel) (by decide +kernel), rfl, by decide +kernel, by decide +kernel, by decide +kernel⟩
-- other method: Coasterland$Ring 3 java/lang/Object.<init>()V
theorem lc_X4_9 : Cond.classLink RX4 9 "Coasterland$Block" ∈ gT := gT_at 253 (by decide +kernel) (by decide +kernel)
theorem lk_X4_11 : Cond.fieldLink RX4 11 RX4 "blocks" "[LCoasterland$Block;" ∈ gT := gT_at 255 (by decide +kernel) (by decide +kernel)
theorem lk_X4_17 : Cond.fieldLink RX4 17 RX4 "blockCount" "I" ∈ gT := gT_at 256 (by decide +kernel) (by decide +kernel)
theorem lk_X4_21 : Cond.fieldLink RX4 21 RX0 "kind" "C" ∈ gT := gT_at 392 (by decide +kernel) (by decide +kernel)
theorem lk_X4_25 : Cond.fieldLink RX4 25 RX0 "rise" "I" ∈ gT := gT_at 396 (by decide +kernel) (by decide +kernel)
theorem lm_X4_28 : gLV RX4 28 RX4 yX4_blockOrNull cX4_blockOrNull 2 ((Option.some (FieldType.object "Coasterland$Block"))) 1 := ⟨gT_at 425 (by decide +kernel) (by decide +kernel), gT_at 426 (by decide +kernel) (by decide +kernel), gT_at 427 (by decide +kernel) (by decide +kernel), gT_at 29 (by decide +kernel) (by decide +kernel), gT_at 428 (by decide +kernel) (by decide +kernel), rfl, by decide +kernel, by decide +kernel, by decide +kernel⟩
theorem lm_X4_32 : gLV RX4 32 RX0 yX0_isStop cX0_isStop 1 ((Option.some FieldType.boolean)) 0 := ⟨gT_at 434 (by decide +kernel) (by decide +kernel), gT_at 435 (by decide +kernel) (by decide +kernel), gT_at 436 (by decide +kernel) (by decide +kernel), gT_at 32 (by decide +kernel) (by decide +kernel), gT_at 437 (by decide +kernel) (by decide +kernel), rfl, by decide +kernel, by decide +kernel, by decide +kernel⟩
theorem lm_X4_36 : gLV RX4 36 RX4 yX4_next cX4_next 2 ((Option.some FieldType.int)) 1 := ⟨gT_at 648 (by decide +kernel) (by decide +kernel), gT_at 649 (by decide +kernel) (by decide +kernel), gT_at 650 (by decide +kernel) (by decide +kernel), gT_at 29 (by decide +kernel) (by decide +kernel), gT_at 651 (by decide +kernel) (by decide +kernel), rfl, by decide +kernel, by decide +kernel, by decide +kernel⟩
theorem lm_X4_40 : gLV RX4 40 RX4 yX4_isStop cX4_isStop 3 ((Option.some FieldType.boolean)) 1 := ⟨gT_at 669 (by decide +kernel) (by decide +kernel), gT_at 670 (by decide +kernel) (by decide +kernel), gT_at 671 (by decide +kernel) (by decide +kernel), gT_at 29 (by decide +kernel) (by decide +kernel), gT_at 672 (by decide +kernel) (by decide +kernel), rfl, by decide +kernel, by decide +kernel, by decide +kernel⟩
theorem lm_X4_43 : gLV RX4 43 RX0 yX0_forceFor cX0_forceFor 2 ((Option.some FieldType.int)) 1 := ⟨gT_at 652 (by decide +kernel) (by decide +kernel), gT_at 653 (by decide +kernel) (by decide +kernel), gT_at 654 (by decide +kernel) (by decide +kernel), gT_at 32 (by decide +kernel) (by decide +kernel), gT_at 655 (by decide +kernel) (by decide +kernel), rfl, by decide +kernel, by decide +kernel, by decide +kernel⟩
theorem lm_X4_46 : gLV RX4 46 RX0 yX0_energyBehind cX0_energyBehind 4 ((Option.some FieldType.int)) 2 := ⟨gT_at 657 (by decide +kernel) (by decide +kernel), gT_at 658 (by decide +kernel) (by decide +kernel), gT_at 659 (by decide +kernel) (by decide +kernel), gT_at 32 (by decide +kernel) (by decide +kernel), gT_at 660 (by decide +kernel) (by decide +kernel), rfl, by decide +kernel, by decide +kernel, by decide +kernel⟩
-- other method: Coasterland$Train 3 java/lang/Object.<init>()V
theorem lk_X5_9 : Cond.fieldLink RX5 9 RX5 "block" "I" ∈ gT := gT_at 465 (by decide +kernel) (by decide +kernel)
theorem lk_X5_15 : Cond.fieldLink RX5 15 RX5 "state" "C" ∈ gT := gT_at 470 (by decide +kernel) (by decide +kernel)
theorem lk_X5_19 : Cond.fieldLink RX5 19 RX5 "held" "I" ∈ gT := gT_at 473 (by decide +kernel) (by decide +kernel)
theorem lk_X5_22 : Cond.fieldLink RX5 22 RX5 "seats" "I" ∈ gT := gT_at 460 (by decide +kernel) (by decide +kernel)
theorem lc_X5_25 : Cond.classLink RX5 25 "Coasterland$Guest" ∈ gT := gT_at 459 (by decide +kernel) (by decide +kernel)
theorem lk_X5_27 : Cond.fieldLink RX5 27 RX5 "riders" "[LCoasterland$Guest;" ∈ gT := gT_at 461 (by decide +kernel) (by decide +kernel)
theorem lk_X5_31 : Cond.fieldLink RX5 31 RX5 "riderCount" "I" ∈ gT := gT_at 462 (by decide +kernel) (by decide +kernel)
theorem lm_X5_34 : gLV RX5 34 RX1 yX1_goAboard cX1_goAboard 1 ((Option.none : Option FieldType)) 0 := ⟨gT_at 709 (by decide +kernel) (by decide +kernel), gT_at 710 (by decide +kernel) (by decide +kernel), gT_at 711 (by decide +kernel) (by decide +kernel), gT_at 36 (by decide +kernel) (by decide +kernel), gT_at 712 (by decide +kernel) (by decide +kernel), rfl, by decide +kernel, by decide +kernel, by decide +kernel⟩
theorem lk_X5_37 : Cond.fieldLink RX5 37 RX5 "greatestForce" "I" ∈ gT := gT_at 476 (by decide +kernel) (by decide +kernel)
theorem lk_X5_40 : Cond.fieldLink RX5 40 RX5 "climbing" "Z" ∈ gT := gT_at 475 (by decide +kernel) (by decide +kernel)
theorem lm_X5_44 : gLV RX5 44 RX4 yX4_blockOrNull cX4_blockOrNull 2 ((Option.some (FieldType.object "Coasterland$Block"))) 1 := ⟨gT_at 782 (by decide +kernel) (by decide +kernel), gT_at 426 (by decide +kernel) (by decide +kernel), gT_at 427 (by decide +kernel) (by decide +kernel), gT_at 29 (by decide +kernel) (by decide +kernel), gT_at 428 (by decide +kernel) (by decide +kernel), rfl, by decide +kernel, by decide +kernel, by decide +kernel⟩
theorem lm_X5_50 : gLV RX5 50 RX4 yX4_next cX4_next 2 ((Option.some FieldType.int)) 1 := ⟨gT_at 783 (by decide +kernel) (by decide +kernel), gT_at 649 (by decide +kernel) (by decide +kernel), gT_at 650 (by decide +kernel) (by decide +kernel), gT_at 29 (by decide +kernel) (by decide +kernel), gT_at 651 (by decide +kernel) (by decide +kernel), rfl, by decide +kernel, by decide +kernel, by decide +kernel⟩
theorem lk_X5_54 : Cond.fieldLink RX5 54 RX5 "energyIn" "I" ∈ gT := gT_at 468 (by decide +kernel) (by decide +kernel)
theorem lm_X5_57 : gLV RX5 57 RX0 yX0_energyBehind cX0_energyBehind 4 ((Option.some FieldType.int)) 2 := ⟨gT_at 784 (by decide +kernel) (by decide +kernel), gT_at 658 (by decide +kernel) (by decide +kernel), gT_at 659 (by decide +kernel) (by decide +kernel), gT_at 32 (by decide +kernel) (by decide +kernel), gT_at 660 (by decide +kernel) (by decide +kernel), rfl, by decide +kernel, by decide +kernel, by decide +kernel⟩
theorem lm_X5_63 : gLV RX5 63 RX0 yX0_isStop cX0_isStop 1 ((Option.some FieldType.boolean)) 0 := ⟨gT_at 785 (by decide +kernel) (by decide +kernel), gT_at 435 (by decide +kernel) (by decide +kernel), gT_at 436 (by decide +kernel) (by decide +kernel), gT_at 32 (by decide +kernel) (by decide +kernel), gT_at 437 (by decide +kernel) (by decide +kernel), rfl, by decide +kernel, by decide +kernel, by decide +kernel⟩
theorem lm_X5_67 : gLV RX5 67 RX5 yX5_standIn cX5_standIn 2 ((Option.none : Option FieldType)) 1 := ⟨gT_at 786 (by decide +kernel) (by decide +kernel), gT_at 755 (by decide +kernel) (by decide +kernel), gT_at 756 (by decide +kernel) (by decide +kernel), gT_at 33 (by decide +kernel) (by decide +kernel), gT_at 757 (by decide +kernel) (by decide +kernel), rfl, by decide +kernel, by decide +kernel, by decide +kernel⟩
theorem lk_X5_71 : Cond.fieldLink RX5 71 RX0 "kind" "C" ∈ gT := gT_at 393 (by decide +kernel) (by decide +kernel)
theorem lm_X5_74 : gLV RX5 74 RX0 yX0_forceFor cX0_forceFor 2 ((Option.some FieldType.int)) 1 := ⟨gT_at 787 (by decide +kernel) (by decide +kernel), gT_at 653 (by decide +kernel) (by decide +kernel), gT_at 654 (by decide +kernel) (by decide +kernel), gT_at 32 (by decide +kernel) (by decide +kernel), gT_at 655 (by decide +kernel) (by decide +kernel), rfl, by decide +kernel, by decide +kernel, by decide +kernel⟩
-- other method: Coasterland$Train 77 java/lang/Math.max(II)I
theorem lm_X5_82 : gLV RX5 82 RX5 yX5_letRidersOut cX5_letRidersOut 3 ((Option.none : Option FieldType)) 0 := ⟨gT_at 758 (by decide +kernel) (by decide +kernel), gT_at 760 (by decide +kernel) (by decide +kernel), gT_at 14 (by decide +kernel) (by decide +kernel), gT_at 33 (by decide +kernel) (by decide +kernel), gT_at 761 (by decide +kernel) (by decide +kernel), rfl, by decide +kernel, by decide +kernel, by decide +kernel⟩
theorem lm_X5_85 : gLV RX5 85 RX1 yX1_finishRide cX1_finishRide 2 ((Option.none : Option FieldType)) 1 := ⟨gT_at 762 (by decide +kernel) (by decide +kernel), gT_at 763 (by decide +kernel) (by decide +kernel), gT_at 764 (by decide +kernel) (by decide +kernel), gT_at 36 (by decide +kernel) (by decide +kernel), gT_at 765 (by decide +kernel) (by decide +kernel), rfl, by decide +kernel, by decide +kernel, by decide +kernel⟩
-- constant: CoasterlandLaw 7 int 69069
-- constant: CoasterlandLaw 8 int 1103515245
theorem lm_L_9 : gLS RL 9 yL_cell cL_cell 3 ((Option.some FieldType.int)) 2 := ⟨gT_at 109 (by decide +kernel) (by decide +kernel), gT_at 110 (by decide +kernel) (by decide +kernel), gT_at 18 (by decide +kernel) (by decide +kernel), gT_at 111 (by decide +kernel) (by decide +kernel), rfl, by decide +kernel, by decide +kernel, by decide +kernel⟩
theorem lm_L_15 : gLV RL 15 RX6 yX6_addRide cX6_addRide 4 ((Option.some FieldType.int)) 3 := ⟨gT_at 203 (by decide +kernel) (by decide +kernel), gT_at 204 (by decide +kernel) (by decide +kernel), gT_at 205 (by decide +kernel) (by decide +kernel), gT_at 19 (by decide +kernel) (by decide +kernel), gT_at 206 (by decide +kernel) (by decide +kernel), rfl, by decide +kernel, by decide +kernel, by decide +kernel⟩
theorem lm_L_21 : gLV RL 21 RX6 yX6_addBlock cX6_addBlock 7 ((Option.some FieldType.int)) 5 := ⟨gT_at 343 (by decide +kernel) (by decide +kernel), gT_at 344 (by decide +kernel) (by decide +kernel), gT_at 345 (by decide +kernel) (by decide +kernel), gT_at 19 (by decide +kernel) (by decide +kernel), gT_at 346 (by decide +kernel) (by decide +kernel), rfl, by decide +kernel, by decide +kernel, by decide +kernel⟩
theorem lm_L_25 : gLV RL 25 RX6 yX6_close cX6_close 3 ((Option.some FieldType.int)) 1 := ⟨gT_at 417 (by decide +kernel) (by decide +kernel), gT_at 418 (by decide +kernel) (by decide +kernel), gT_at 419 (by decide +kernel) (by decide +kernel), gT_at 19 (by decide +kernel) (by decide +kernel), gT_at 420 (by decide +kernel) (by decide +kernel), rfl, by decide +kernel, by decide +kernel, by decide +kernel⟩
theorem lm_L_29 : gLV RL 29 RX6 yX6_addTrain cX6_addTrain 5 ((Option.some FieldType.int)) 2 := ⟨gT_at 438 (by decide +kernel) (by decide +kernel), gT_at 439 (by decide +kernel) (by decide +kernel), gT_at 440 (by decide +kernel) (by decide +kernel), gT_at 19 (by decide +kernel) (by decide +kernel), gT_at 441 (by decide +kernel) (by decide +kernel), rfl, by decide +kernel, by decide +kernel, by decide +kernel⟩
theorem lm_L_33 : gLV RL 33 RX6 yX6_addStaff cX6_addStaff 2 ((Option.some FieldType.int)) 1 := ⟨gT_at 525 (by decide +kernel) (by decide +kernel), gT_at 526 (by decide +kernel) (by decide +kernel), gT_at 527 (by decide +kernel) (by decide +kernel), gT_at 19 (by decide +kernel) (by decide +kernel), gT_at 528 (by decide +kernel) (by decide +kernel), rfl, by decide +kernel, by decide +kernel, by decide +kernel⟩
theorem lm_L_36 : gLV RL 36 RX6 yX6_assign cX6_assign 5 ((Option.some FieldType.int)) 2 := ⟨gT_at 531 (by decide +kernel) (by decide +kernel), gT_at 532 (by decide +kernel) (by decide +kernel), gT_at 533 (by decide +kernel) (by decide +kernel), gT_at 19 (by decide +kernel) (by decide +kernel), gT_at 534 (by decide +kernel) (by decide +kernel), rfl, by decide +kernel, by decide +kernel, by decide +kernel⟩
theorem lm_L_39 : gLV RL 39 RX6 yX6_inspect cX6_inspect 5 ((Option.some FieldType.int)) 2 := ⟨gT_at 549 (by decide +kernel) (by decide +kernel), gT_at 550 (by decide +kernel) (by decide +kernel), gT_at 551 (by decide +kernel) (by decide +kernel), gT_at 19 (by decide +kernel) (by decide +kernel), gT_at 552 (by decide +kernel) (by decide +kernel), rfl, by decide +kernel, by decide +kernel, by decide +kernel⟩
theorem lm_L_42 : gLV RL 42 RX6 yX6_lock cX6_lock 4 ((Option.some FieldType.int)) 2 := ⟨gT_at 554 (by decide +kernel) (by decide +kernel), gT_at 555 (by decide +kernel) (by decide +kernel), gT_at 556 (by decide +kernel) (by decide +kernel), gT_at 19 (by decide +kernel) (by decide +kernel), gT_at 557 (by decide +kernel) (by decide +kernel), rfl, by decide +kernel, by decide +kernel, by decide +kernel⟩
theorem lm_L_45 : gLV RL 45 RX6 yX6_unlock cX6_unlock 4 ((Option.some FieldType.int)) 2 := ⟨gT_at 569 (by decide +kernel) (by decide +kernel), gT_at 570 (by decide +kernel) (by decide +kernel), gT_at 571 (by decide +kernel) (by decide +kernel), gT_at 19 (by decide +kernel) (by decide +kernel), gT_at 572 (by decide +kernel) (by decide +kernel), rfl, by decide +kernel, by decide +kernel, by decide +kernel⟩
theorem lm_L_48 : gLV RL 48 RX6 yX6_setSensor cX6_setSensor 8 ((Option.some FieldType.char)) 4 := ⟨gT_at 574 (by decide +kernel) (by decide +kernel), gT_at 575 (by decide +kernel) (by decide +kernel), gT_at 576 (by decide +kernel) (by decide +kernel), gT_at 19 (by decide +kernel) (by decide +kernel), gT_at 577 (by decide +kernel) (by decide +kernel), rfl, by decide +kernel, by decide +kernel, by decide +kernel⟩
theorem lm_L_52 : gLV RL 52 RX6 yX6_reset cX6_reset 3 ((Option.some FieldType.int)) 1 := ⟨gT_at 592 (by decide +kernel) (by decide +kernel), gT_at 593 (by decide +kernel) (by decide +kernel), gT_at 594 (by decide +kernel) (by decide +kernel), gT_at 19 (by decide +kernel) (by decide +kernel), gT_at 595 (by decide +kernel) (by decide +kernel), rfl, by decide +kernel, by decide +kernel, by decide +kernel⟩
theorem lm_L_55 : gLV RL 55 RX6 yX6_setWind cX6_setWind 3 ((Option.some FieldType.int)) 1 := ⟨gT_at 606 (by decide +kernel) (by decide +kernel), gT_at 607 (by decide +kernel) (by decide +kernel), gT_at 608 (by decide +kernel) (by decide +kernel), gT_at 19 (by decide +kernel) (by decide +kernel), gT_at 609 (by decide +kernel) (by decide +kernel), rfl, by decide +kernel, by decide +kernel, by decide +kernel⟩
theorem lm_L_58 : gLV RL 58 RX6 yX6_strike cX6_strike 2 ((Option.some FieldType.boolean)) 1 := ⟨gT_at 611 (by decide +kernel) (by decide +kernel), gT_at 612 (by decide +kernel) (by decide +kernel), gT_at 613 (by decide +kernel) (by decide +kernel), gT_at 19 (by decide +kernel) (by decide +kernel), gT_at 614 (by decide +kernel) (by decide +kernel), rfl, by decide +kernel, by decide +kernel, by decide +kernel⟩
theorem lm_L_62 : gLS RL 62 yL_told cL_told 1 ((Option.some FieldType.int)) 1 := ⟨gT_at 616 (by decide +kernel) (by decide +kernel), gT_at 617 (by decide +kernel) (by decide +kernel), gT_at 18 (by decide +kernel) (by decide +kernel), gT_at 618 (by decide +kernel) (by decide +kernel), rfl, by decide +kernel, by decide +kernel, by decide +kernel⟩
theorem lm_L_66 : gLV RL 66 RX6 yX6_dispatch cX6_dispatch 4 ((Option.some FieldType.int)) 1 := ⟨gT_at 619 (by decide +kernel) (by decide +kernel), gT_at 620 (by decide +kernel) (by decide +kernel), gT_at 621 (by decide +kernel) (by decide +kernel), gT_at 19 (by decide +kernel) (by decide +kernel), gT_at 622 (by decide +kernel) (by decide +kernel), rfl, by decide +kernel, by decide +kernel, by decide +kernel⟩
theorem lm_L_69 : gLV RL 69 RX6 yX6_push cX6_push 5 ((Option.some FieldType.int)) 2 := ⟨gT_at 737 (by decide +kernel) (by decide +kernel), gT_at 738 (by decide +kernel) (by decide +kernel), gT_at 739 (by decide +kernel) (by decide +kernel), gT_at 19 (by decide +kernel) (by decide +kernel), gT_at 740 (by decide +kernel) (by decide +kernel), rfl, by decide +kernel, by decide +kernel, by decide +kernel⟩
theorem lm_L_72 : gLV RL 72 RX6 yX6_tick cX6_tick 7 ((Option.some FieldType.int)) 1 := ⟨gT_at 769 (by decide +kernel) (by decide +kernel), gT_at 770 (by decide +kernel) (by decide +kernel), gT_at 771 (by decide +kernel) (by decide +kernel), gT_at 19 (by decide +kernel) (by decide +kernel), gT_at 772 (by decide +kernel) (by decide +kernel), rfl, by decide +kernel, by decide +kernel, by decide +kernel⟩
theorem lm_L_75 : gLV RL 75 RX6 yX6_enter cX6_enter 4 ((Option.some FieldType.int)) 3 := ⟨gT_at 795 (by decide +kernel) (by decide +kernel), gT_at 796 (by decide +kernel) (by decide +kernel), gT_at 797 (by decide +kernel) (by decide +kernel), gT_at 19 (by decide +kernel) (by decide +kernel), gT_at 798 (by decide +kernel) (by decide +kernel), rfl, by decide +kernel, by decide +kernel, by decide +kernel⟩
theorem lm_L_78 : gLV RL 78 RX6 yX6_leave cX6_leave 3 ((Option.some FieldType.int)) 1 := ⟨gT_at 847 (by decide +kernel) (by decide +kernel), gT_at 848 (by decide +kernel) (by decide +kernel), gT_at 849 (by decide +kernel) (by decide +kernel), gT_at 19 (by decide +kernel) (by decide +kernel), gT_at 850 (by decide +kernel) (by decide +kernel), rfl, by decide +kernel, by decide +kernel, by decide +kernel⟩
theorem lm_L_81 : gLV RL 81 RX6 yX6_queue cX6_queue 8 ((Option.some FieldType.int)) 3 := ⟨gT_at 857 (by decide +kernel) (by decide +kernel), gT_at 858 (by decide +kernel) (by decide +kernel), gT_at 859 (by decide +kernel) (by decide +kernel), gT_at 19 (by decide +kernel) (by decide +kernel), gT_at 860 (by decide +kernel) (by decide +kernel), rfl, by decide +kernel, by decide +kernel, by decide +kernel⟩
theorem lm_L_85 : gLV RL 85 RX6 yX6_quit cX6_quit 4 ((Option.some FieldType.int)) 1 := ⟨gT_at 886 (by decide +kernel) (by decide +kernel), gT_at 887 (by decide +kernel) (by decide +kernel), gT_at 888 (by decide +kernel) (by decide +kernel), gT_at 19 (by decide +kernel) (by decide +kernel), gT_at 889 (by decide +kernel) (by decide +kernel), rfl, by decide +kernel, by decide +kernel, by decide +kernel⟩
theorem lm_L_88 : gLV RL 88 RX6 yX6_takeReturn cX6_takeReturn 5 ((Option.some FieldType.int)) 2 := ⟨gT_at 896 (by decide +kernel) (by decide +kernel), gT_at 897 (by decide +kernel) (by decide +kernel), gT_at 898 (by decide +kernel) (by decide +kernel), gT_at 19 (by decide +kernel) (by decide +kernel), gT_at 899 (by decide +kernel) (by decide +kernel), rfl, by decide +kernel, by decide +kernel, by decide +kernel⟩
theorem lm_L_91 : gLV RL 91 RX6 yX6_eat cX6_eat 3 ((Option.some FieldType.int)) 1 := ⟨gT_at 901 (by decide +kernel) (by decide +kernel), gT_at 902 (by decide +kernel) (by decide +kernel), gT_at 903 (by decide +kernel) (by decide +kernel), gT_at 19 (by decide +kernel) (by decide +kernel), gT_at 904 (by decide +kernel) (by decide +kernel), rfl, by decide +kernel, by decide +kernel, by decide +kernel⟩
theorem lm_L_94 : gLV RL 94 RX6 yX6_keeps cX6_keeps 2 ((Option.some FieldType.char)) 1 := ⟨gT_at 915 (by decide +kernel) (by decide +kernel), gT_at 916 (by decide +kernel) (by decide +kernel), gT_at 917 (by decide +kernel) (by decide +kernel), gT_at 19 (by decide +kernel) (by decide +kernel), gT_at 918 (by decide +kernel) (by decide +kernel), rfl, by decide +kernel, by decide +kernel, by decide +kernel⟩
theorem lm_L_98 : gLV RL 98 RX6 yX6_force cX6_force 4 ((Option.some FieldType.int)) 2 := ⟨gT_at 919 (by decide +kernel) (by decide +kernel), gT_at 920 (by decide +kernel) (by decide +kernel), gT_at 921 (by decide +kernel) (by decide +kernel), gT_at 19 (by decide +kernel) (by decide +kernel), gT_at 922 (by decide +kernel) (by decide +kernel), rfl, by decide +kernel, by decide +kernel, by decide +kernel⟩
theorem lm_L_101 : gLV RL 101 RX6 yX6_isHeld cX6_isHeld 4 ((Option.some FieldType.boolean)) 2 := ⟨gT_at 931 (by decide +kernel) (by decide +kernel), gT_at 932 (by decide +kernel) (by decide +kernel), gT_at 933 (by decide +kernel) (by decide +kernel), gT_at 19 (by decide +kernel) (by decide +kernel), gT_at 934 (by decide +kernel) (by decide +kernel), rfl, by decide +kernel, by decide +kernel, by decide +kernel⟩
theorem lm_L_105 : gLV RL 105 RX6 yX6_sees cX6_sees 5 ((Option.some FieldType.boolean)) 3 := ⟨gT_at 935 (by decide +kernel) (by decide +kernel), gT_at 936 (by decide +kernel) (by decide +kernel), gT_at 937 (by decide +kernel) (by decide +kernel), gT_at 19 (by decide +kernel) (by decide +kernel), gT_at 938 (by decide +kernel) (by decide +kernel), rfl, by decide +kernel, by decide +kernel, by decide +kernel⟩
theorem lm_L_109 : gLV RL 109 RX6 yX6_hasTripped cX6_hasTripped 2 ((Option.some FieldType.boolean)) 1 := ⟨gT_at 943 (by decide +kernel) (by decide +kernel), gT_at 944 (by decide +kernel) (by decide +kernel), gT_at 945 (by decide +kernel) (by decide +kernel), gT_at 19 (by decide +kernel) (by decide +kernel), gT_at 946 (by decide +kernel) (by decide +kernel), rfl, by decide +kernel, by decide +kernel, by decide +kernel⟩
theorem lm_L_112 : gLV RL 112 RX6 yX6_blockOf cX6_blockOf 3 ((Option.some FieldType.int)) 2 := ⟨gT_at 947 (by decide +kernel) (by decide +kernel), gT_at 948 (by decide +kernel) (by decide +kernel), gT_at 949 (by decide +kernel) (by decide +kernel), gT_at 19 (by decide +kernel) (by decide +kernel), gT_at 950 (by decide +kernel) (by decide +kernel), rfl, by decide +kernel, by decide +kernel, by decide +kernel⟩
theorem lm_L_115 : gLV RL 115 RX6 yX6_energy cX6_energy 3 ((Option.some FieldType.int)) 2 := ⟨gT_at 951 (by decide +kernel) (by decide +kernel), gT_at 952 (by decide +kernel) (by decide +kernel), gT_at 953 (by decide +kernel) (by decide +kernel), gT_at 19 (by decide +kernel) (by decide +kernel), gT_at 954 (by decide +kernel) (by decide +kernel), rfl, by decide +kernel, by decide +kernel, by decide +kernel⟩
theorem lm_L_118 : gLV RL 118 RX6 yX6_stateOf cX6_stateOf 3 ((Option.some FieldType.char)) 2 := ⟨gT_at 955 (by decide +kernel) (by decide +kernel), gT_at 956 (by decide +kernel) (by decide +kernel), gT_at 957 (by decide +kernel) (by decide +kernel), gT_at 19 (by decide +kernel) (by decide +kernel), gT_at 958 (by decide +kernel) (by decide +kernel), rfl, by decide +kernel, by decide +kernel, by decide +kernel⟩
theorem lm_L_122 : gLV RL 122 RX6 yX6_aboard cX6_aboard 3 ((Option.some FieldType.int)) 2 := ⟨gT_at 959 (by decide +kernel) (by decide +kernel), gT_at 960 (by decide +kernel) (by decide +kernel), gT_at 961 (by decide +kernel) (by decide +kernel), gT_at 19 (by decide +kernel) (by decide +kernel), gT_at 962 (by decide +kernel) (by decide +kernel), rfl, by decide +kernel, by decide +kernel, by decide +kernel⟩
theorem lm_L_125 : gLV RL 125 RX6 yX6_waiting cX6_waiting 3 ((Option.some FieldType.int)) 2 := ⟨gT_at 963 (by decide +kernel) (by decide +kernel), gT_at 964 (by decide +kernel) (by decide +kernel), gT_at 965 (by decide +kernel) (by decide +kernel), gT_at 19 (by decide +kernel) (by decide +kernel), gT_at 966 (by decide +kernel) (by decide +kernel), rfl, by decide +kernel, by decide +kernel, by decide +kernel⟩
theorem lm_L_129 : gLV RL 129 RX6 yX6_whereIs cX6_whereIs 2 ((Option.some FieldType.char)) 1 := ⟨gT_at 967 (by decide +kernel) (by decide +kernel), gT_at 968 (by decide +kernel) (by decide +kernel), gT_at 969 (by decide +kernel) (by decide +kernel), gT_at 19 (by decide +kernel) (by decide +kernel), gT_at 970 (by decide +kernel) (by decide +kernel), rfl, by decide +kernel, by decide +kernel, by decide +kernel⟩
theorem lm_L_132 : gLV RL 132 RX6 yX6_get cX6_get 4 ((Option.some FieldType.int)) 2 := ⟨gT_at 971 (by decide +kernel) (by decide +kernel), gT_at 972 (by decide +kernel) (by decide +kernel), gT_at 973 (by decide +kernel) (by decide +kernel), gT_at 19 (by decide +kernel) (by decide +kernel), gT_at 974 (by decide +kernel) (by decide +kernel), rfl, by decide +kernel, by decide +kernel, by decide +kernel⟩
theorem lm_L_135 : gLV RL 135 RX6 yX6_hungriest cX6_hungriest 5 ((Option.some FieldType.int)) 0 := ⟨gT_at 976 (by decide +kernel) (by decide +kernel), gT_at 977 (by decide +kernel) (by decide +kernel), gT_at 978 (by decide +kernel) (by decide +kernel), gT_at 19 (by decide +kernel) (by decide +kernel), gT_at 979 (by decide +kernel) (by decide +kernel), rfl, by decide +kernel, by decide +kernel, by decide +kernel⟩
theorem lm_L_139 : gLV RL 139 RX6 yX6_cycles cX6_cycles 2 ((Option.some FieldType.int)) 1 := ⟨gT_at 1000 (by decide +kernel) (by decide +kernel), gT_at 1001 (by decide +kernel) (by decide +kernel), gT_at 1002 (by decide +kernel) (by decide +kernel), gT_at 19 (by decide +kernel) (by decide +kernel), gT_at 1003 (by decide +kernel) (by decide +kernel), rfl, by decide +kernel, by decide +kernel, by decide +kernel⟩
theorem lm_L_142 : gLS RL 142 yL_done cL_done 7 ((Option.some FieldType.int)) 7 := ⟨gT_at 200 (by decide +kernel) (by decide +kernel), gT_at 201 (by decide +kernel) (by decide +kernel), gT_at 18 (by decide +kernel) (by decide +kernel), gT_at 202 (by decide +kernel) (by decide +kernel), rfl, by decide +kernel, by decide +kernel, by decide +kernel⟩
theorem lm_L_146 : gLS RL 146 yL_asked cL_asked 5 ((Option.some FieldType.int)) 5 := ⟨gT_at 912 (by decide +kernel) (by decide +kernel), gT_at 913 (by decide +kernel) (by decide +kernel), gT_at 18 (by decide +kernel) (by decide +kernel), gT_at 914 (by decide +kernel) (by decide +kernel), rfl, by decide +kernel, by decide +kernel, by decide +kernel⟩
-- other method: CoasterlandLaw 160 CoasterlandLaw.deed(LCoasterland;IIIIII)I
theorem lm_L_163 : gLS RL 163 yL_pick cL_pick 3 ((Option.some FieldType.int)) 3 := ⟨gT_at 106 (by decide +kernel) (by decide +kernel), gT_at 107 (by decide +kernel) (by decide +kernel), gT_at 18 (by decide +kernel) (by decide +kernel), gT_at 108 (by decide +kernel) (by decide +kernel), rfl, by decide +kernel, by decide +kernel, by decide +kernel⟩
theorem lm_L_167 : gLS RL 167 yL_block cL_block 6 ((Option.some FieldType.int)) 6 := ⟨gT_at 1010 (by decide +kernel) (by decide +kernel), gT_at 1011 (by decide +kernel) (by decide +kernel), gT_at 18 (by decide +kernel) (by decide +kernel), gT_at 1012 (by decide +kernel) (by decide +kernel), rfl, by decide +kernel, by decide +kernel, by decide +kernel⟩
-- other method: CoasterlandLaw 171 java/lang/Math.min(II)I
-- other method: CoasterlandLaw 176 java/lang/Math.max(II)I
theorem lm_L_179 : gLS RL 179 yL_ask cL_ask 4 ((Option.some FieldType.int)) 4 := ⟨gT_at 1004 (by decide +kernel) (by decide +kernel), gT_at 1005 (by decide +kernel) (by decide +kernel), gT_at 18 (by decide +kernel) (by decide +kernel), gT_at 1006 (by decide +kernel) (by decide +kernel), rfl, by decide +kernel, by decide +kernel, by decide +kernel⟩
theorem lm_L_183 : gLV RL 183 RX6 yX6_guests cX6_guests 1 ((Option.some FieldType.int)) 0 := ⟨gT_at 1021 (by decide +kernel) (by decide +kernel), gT_at 1022 (by decide +kernel) (by decide +kernel), gT_at 1023 (by decide +kernel) (by decide +kernel), gT_at 19 (by decide +kernel) (by decide +kernel), gT_at 1024 (by decide +kernel) (by decide +kernel), rfl, by decide +kernel, by decide +kernel, by decide +kernel⟩
theorem lm_L_186 : gLV RL 186 RX6 yX6_allMoney cX6_allMoney 1 ((Option.some FieldType.long)) 0 := ⟨gT_at 98 (by decide +kernel) (by decide +kernel), gT_at 99 (by decide +kernel) (by decide +kernel), gT_at 100 (by decide +kernel) (by decide +kernel), gT_at 19 (by decide +kernel) (by decide +kernel), gT_at 101 (by decide +kernel) (by decide +kernel), rfl, by decide +kernel, by decide +kernel, by decide +kernel⟩
theorem lm_L_190 : gLV RL 190 RX6 yX6_till cX6_till 1 ((Option.some FieldType.long)) 0 := ⟨gT_at 1025 (by decide +kernel) (by decide +kernel), gT_at 1026 (by decide +kernel) (by decide +kernel), gT_at 1027 (by decide +kernel) (by decide +kernel), gT_at 19 (by decide +kernel) (by decide +kernel), gT_at 1028 (by decide +kernel) (by decide +kernel), rfl, by decide +kernel, by decide +kernel, by decide +kernel⟩
theorem lm_L_193 : gLV RL 193 RX6 yX6_isSound cX6_isSound 5 ((Option.some FieldType.boolean)) 0 := ⟨gT_at 1029 (by decide +kernel) (by decide +kernel), gT_at 1030 (by decide +kernel) (by decide +kernel), gT_at 1031 (by decide +kernel) (by decide +kernel), gT_at 19 (by decide +kernel) (by decide +kernel), gT_at 1032 (by decide +kernel) (by decide +kernel), rfl, by decide +kernel, by decide +kernel, by decide +kernel⟩
theorem lc_L_16 : Cond.classLink RL 16 "Coasterland" ∈ gT := gT_at 41 (by decide +kernel) (by decide +kernel)
theorem lm_L_197 : gLI RL 197 yX6_init cX6_init 1 0 := ⟨gT_at 43 (by decide +kernel) (by decide +kernel), gT_at 44 (by decide +kernel) (by decide +kernel), gT_at 19 (by decide +kernel) (by decide +kernel), gT_at 45 (by decide +kernel) (by decide +kernel), rfl, by decide +kernel, by decide +kernel, by decide +kernel⟩
theorem lm_L_198 : gLS RL 198 yL_build cL_build 10 ((Option.none : Option FieldType)) 2 := ⟨gT_at 1007 (by decide +kernel) (by decide +kernel), gT_at 1008 (by decide +kernel) (by decide +kernel), gT_at 18 (by decide +kernel) (by decide +kernel), gT_at 1009 (by decide +kernel) (by decide +kernel), rfl, by decide +kernel, by decide +kernel, by decide +kernel⟩
theorem lm_L_202 : gLS RL 202 yL_areTrainsApart cL_areTrainsApart 8 ((Option.some FieldType.boolean)) 2 := ⟨gT_at 1015 (by decide +kernel) (by decide +kernel), gT_at 1016 (by decide +kernel) (by decide +kernel), gT_at 18 (by decide +kernel) (by decide +kernel), gT_at 1017 (by decide +kernel) (by decide +kernel), rfl, by decide +kernel, by decide +kernel, by decide +kernel⟩
theorem lm_L_206 : gLS RL 206 yL_areGuestsRight cL_areGuestsRight 10 ((Option.some FieldType.boolean)) 3 := ⟨gT_at 1018 (by decide +kernel) (by decide +kernel), gT_at 1019 (by decide +kernel) (by decide +kernel), gT_at 18 (by decide +kernel) (by decide +kernel), gT_at 1020 (by decide +kernel) (by decide +kernel), rfl, by decide +kernel, by decide +kernel, by decide +kernel⟩
theorem lm_L_210 : gLS RL 210 yL_isDispatched cL_isDispatched 7 ((Option.some FieldType.boolean)) 2 := ⟨gT_at 1057 (by decide +kernel) (by decide +kernel), gT_at 1058 (by decide +kernel) (by decide +kernel), gT_at 18 (by decide +kernel) (by decide +kernel), gT_at 1059 (by decide +kernel) (by decide +kernel), rfl, by decide +kernel, by decide +kernel, by decide +kernel⟩
theorem lm_L_213 : gLV RL 213 RX6 yX6_ticks cX6_ticks 1 ((Option.some FieldType.int)) 0 := ⟨gT_at 94 (by decide +kernel) (by decide +kernel), gT_at 95 (by decide +kernel) (by decide +kernel), gT_at 96 (by decide +kernel) (by decide +kernel), gT_at 19 (by decide +kernel) (by decide +kernel), gT_at 97 (by decide +kernel) (by decide +kernel), rfl, by decide +kernel, by decide +kernel, by decide +kernel⟩
theorem ls_L_216 : (RL, 216, "lsr") ∈ gStrs := List.mem_filterMap.mpr ⟨_, List.mem_of_getElem? (i := 1082) (a := Cond.stringRef "CoasterlandLaw" 216 "lsr") (by decide +kernel), rfl⟩
theorem lm_L_218 : gLV RL 218 RJ0 yJ0_charAt_5068e cJ0_charAt_5068e 2 ((Option.some FieldType.char)) 1 := ⟨gT_at 1060 (by decide +kernel) (by decide +kernel), gT_at 1061 (by decide +kernel) (by decide +kernel), gT_at 1062 (by decide +kernel) (by decide +kernel), gT_at 25 (by decide +kernel) (by decide +kernel), gT_at 1063 (by decide +kernel) (by decide +kernel), rfl, by decide +kernel, by decide +kernel, by decide +kernel⟩
theorem ls_L_223 : (RL, 223, "tttan") ∈ gStrs := List.mem_filterMap.mpr ⟨_, List.mem_of_getElem? (i := 1083) (a := Cond.stringRef "CoasterlandLaw" 223 "tttan") (by decide +kernel), rfl⟩
set_option maxRecDepth 20000 in
theorem th_IllegalArgumentException : gThr RX6 29 33 "java/lang/IllegalArgumentException" ["java/lang/RuntimeException", "java/lang/Exception"] := ⟨by decide +kernel, by decide +kernel, lc_X6_29, gT_at 26 (by decide +kernel) (by decide +kernel), (by decide +kernel : ∀ w ∈ vx_atS RX6 33 "java/lang/IllegalArgumentException" ["java/lang/RuntimeException", "java/lang/Exception"], w ∈ gT ∨ w ∈ gB), by decide +kernel⟩
set_option maxRecDepth 20000 in
theorem th_IllegalStateException : gThr RX6 40 44 "java/lang/IllegalStateException" ["java/lang/RuntimeException", "java/lang/Exception"] := ⟨by decide +kernel, by decide +kernel, lc_X6_40, gT_at 27 (by decide +kernel) (by decide +kernel), (by decide +kernel : ∀ w ∈ vx_atS RX6 44 "java/lang/IllegalStateException" ["java/lang/RuntimeException", "java/lang/Exception"], w ∈ gT ∨ w ∈ gB), by decide +kernel⟩
set_option maxRecDepth 20000 in
theorem th_UnsupportedOperationException : gThr RX6 68 72 "java/lang/UnsupportedOperationException" ["java/lang/RuntimeException", "java/lang/Exception"] := ⟨by decide +kernel, by decide +kernel, lc_X6_68, gT_at 31 (by decide +kernel) (by decide +kernel), (by decide +kernel : ∀ w ∈ vx_atS RX6 72 "java/lang/UnsupportedOperationException" ["java/lang/RuntimeException", "java/lang/Exception"], w ∈ gT ∨ w ∈ gB), by decide +kernel⟩
set_option maxRecDepth 20000 in
theorem th_IndexOutOfBoundsException : gThr RX6 402 406 "java/lang/IndexOutOfBoundsException" ["java/lang/RuntimeException", "java/lang/Exception"] := ⟨by decide +kernel, by decide +kernel, lc_X6_402, gT_at 23 (by decide +kernel) (by decide +kernel), (by decide +kernel : ∀ w ∈ vx_atS RX6 406 "java/lang/IndexOutOfBoundsException" ["java/lang/RuntimeException", "java/lang/Exception"], w ∈ gT ∨ w ∈ gB), by decide +kernel⟩
theorem la_int : Cond.arrayClass .int ∈ gT := gT_at 93 (by decide +kernel) (by decide +kernel)
theorem la_Ride : Cond.arrayOver (.object "Coasterland$Ride") ∈ tables_1 := List.mem_of_getElem? (i := 32) (by decide +kernel)
theorem la_Guest : Cond.arrayOver (.object "Coasterland$Guest") ∈ tables_1 := List.mem_of_getElem? (i := 34) (by decide +kernel)
theorem la_Block : Cond.arrayOver (.object "Coasterland$Block") ∈ tables_1 := List.mem_of_getElem? (i := 236) (by decide +kernel)
theorem la_Train : Cond.arrayOver (.object "Coasterland$Train") ∈ tables_1 := List.mem_of_getElem? (i := 251) (by decide +kernel)
theorem lo_in : Cond.instanceMethod objectInit ∈ gT := gT_at 47 (by decide +kernel) (by decide +kernel)
theorem lo_co : Cond.code objectInit ⟨#[0xb1]⟩ 1 none ∈ gT := gT_at 48 (by decide +kernel) (by decide +kernel)
theorem lo_X6 : Cond.methodLink RX6 1 objectInit ∈ gT := gT_at 46 (by decide +kernel) (by decide +kernel)
theorem lo_X0 : Cond.methodLink RX0 3 objectInit ∈ gT := gT_at 390 (by decide +kernel) (by decide +kernel)
theorem lo_X1 : Cond.methodLink RX1 3 objectInit ∈ gT := gT_at 805 (by decide +kernel) (by decide +kernel)
theorem lo_X2 : Cond.methodLink RX2 3 objectInit ∈ gT := gT_at 275 (by decide +kernel) (by decide +kernel)
theorem lo_X3 : Cond.methodLink RX3 3 objectInit ∈ gT := gT_at 246 (by decide +kernel) (by decide +kernel)
theorem lo_X4 : Cond.methodLink RX4 3 objectInit ∈ gT := gT_at 252 (by decide +kernel) (by decide +kernel)
theorem lo_X5 : Cond.methodLink RX5 3 objectInit ∈ gT := gT_at 458 (by decide +kernel) (by decide +kernel)
end GFACTS
end
section
/-! the state of the park: numbers by kind, object, slot (pI); longs (pJ); who sits where (pRD: ride, train, place; pPL: ride, queue, place); a guest's queue (pGL); how many rides, guests, blocks, trains; an array of the law's own. Kinds: 0 block 1 guest 2 queue 3 ride 4 ring 5 train 6 park; arrays: 7 rides 8 certificates 9 guests 10 blocks 11 trains 12 riders 13 places 14 the law's own -/
section GSTATE
abbrev gP : Type := (Nat → Nat → Nat → Nat → Int32) × (Nat → Int64) × (Nat → Nat → Nat → Option Nat) × (Nat → Nat → Nat → Option Nat) × (Nat → Option (Nat × Nat)) × Nat × Nat × (Nat → Nat) × (Nat → Nat) × Nat
def pI (P : gP) (k r i s : Nat) : Int32 := P.1 k r i s
def pJ (P : gP) (s : Nat) : Int64 := P.2.1 s
def pRD (P : gP) (r i j : Nat) : Option Nat := P.2.2.1 r i j
def pPL (P : gP) (r i j : Nat) : Option Nat := P.2.2.2.1 r i j
def pGL (P : gP) (g : Nat) : Option (Nat × Nat) := P.2.2.2.2.1 g
def pnR (P : gP) : Nat := P.2.2.2.2.2.1
def pnG (P : gP) : Nat := P.2.2.2.2.2.2.1
def pnB (P : gP) (r : Nat) : Nat := P.2.2.2.2.2.2.2.1 r
def pnT (P : gP) (r : Nat) : Nat := P.2.2.2.2.2.2.2.2.1 r
def pnX (P : gP) : Nat := P.2.2.2.2.2.2.2.2.2
def uI (P : gP) (k r i s : Nat) (v : Int32) : gP := (fun k' r' i' s' => if k' = k ∧ r' = r ∧ i' = i ∧ s' = s then v else P.1 k' r' i' s', P.2)
def uJ (P : gP) (s : Nat) (v : Int64) : gP := (P.1, fun s' => if s' = s then v else P.2.1 s', P.2.2)
def uRD (P : gP) (r i j : Nat) (v : Option Nat) : gP := (P.1, P.2.1, fun r' i' j' => if r' = r ∧ i' = i ∧ j' = j then v else P.2.2.1 r' i' j', P.2.2.2)
def uPL (P : gP) (r i j : Nat) (v : Option Nat) : gP := (P.1, P.2.1, P.2.2.1, fun r' i' j' => if r' = r ∧ i' = i ∧ j' = j then v else P.2.2.2.1 r' i' j', P.2.2.2.2)
def uGL (P : gP) (g : Nat) (v : Option (Nat × Nat)) : gP := (P.1, P.2.1, P.2.2.1, P.2.2.2.1, fun g' => if g' = g then v else P.2.2.2.2.1 g', P.2.2.2.2.2)
def unR (P : gP) (v : Nat) : gP := (P.1, P.2.1, P.2.2.1, P.2.2.2.1, P.2.2.2.2.1, v, P.2.2.2.2.2.2)
def unG (P : gP) (v : Nat) : gP := (P.1, P.2.1, P.2.2.1, P.2.2.2.1, P.2.2.2.2.1, P.2.2.2.2.2.1, v, P.2.2.2.2.2.2.2)
def unB (P : gP) (r : Nat) (v : Nat) : gP := (P.1, P.2.1, P.2.2.1, P.2.2.2.1, P.2.2.2.2.1, P.2.2.2.2.2.1, P.2.2.2.2.2.2.1, fun r' => if r' = r then v else P.2.2.2.2.2.2.2.1 r', P.2.2.2.2.2.2.2.2)
def unT (P : gP) (r : Nat) (v : Nat) : gP := (P.1, P.2.1, P.2.2.1, P.2.2.2.1, P.2.2.2.2.1, P.2.2.2.2.2.1, P.2.2.2.2.2.2.1, P.2.2.2.2.2.2.2.1, fun r' => if r' = r then v else P.2.2.2.2.2.2.2.2.1 r', P.2.2.2.2.2.2.2.2.2)
def unX (P : gP) (v : Nat) : gP := (P.1, P.2.1, P.2.2.1, P.2.2.2.1, P.2.2.2.2.1, P.2.2.2.2.2.1, P.2.2.2.2.2.2.1, P.2.2.2.2.2.2.2.1, P.2.2.2.2.2.2.2.2.1, v)
theorem pI_uI (P : gP) (k0 r0 i0 s0 : Nat) (v : Int32) (k r i s : Nat) : pI (uI P k0 r0 i0 s0 v) k r i s = if k = k0 ∧ r = r0 ∧ i = i0 ∧ s = s0 then v else pI P k r i s := rfl
theorem pJ_uI (P : gP) (k0 r0 i0 s0 : Nat) (v : Int32) (s : Nat) : pJ (uI P k0 r0 i0 s0 v) s = pJ P s := rfl
theorem pRD_uI (P : gP) (k0 r0 i0 s0 : Nat) (v : Int32) (r i j : Nat) : pRD (uI P k0 r0 i0 s0 v) r i j = pRD P r i j := rfl
theorem pPL_uI (P : gP) (k0 r0 i0 s0 : Nat) (v : Int32) (r i j : Nat) : pPL (uI P k0 r0 i0 s0 v) r i j = pPL P r i j := rfl
theorem pGL_uI (P : gP) (k0 r0 i0 s0 : Nat) (v : Int32) (g : Nat) : pGL (uI P k0 r0 i0 s0 v) g = pGL P g := rfl
theorem pnR_uI (P : gP) (k0 r0 i0 s0 : Nat) (v : Int32)  : pnR (uI P k0 r0 i0 s0 v) = pnR P := rfl
theorem pnG_uI (P : gP) (k0 r0 i0 s0 : Nat) (v : Int32)  : pnG (uI P k0 r0 i0 s0 v) = pnG P := rfl
theorem pnB_uI (P : gP) (k0 r0 i0 s0 : Nat) (v : Int32) (r : Nat) : pnB (uI P k0 r0 i0 s0 v) r = pnB P r := rfl
theorem pnT_uI (P : gP) (k0 r0 i0 s0 : Nat) (v : Int32) (r : Nat) : pnT (uI P k0 r0 i0 s0 v) r = pnT P r := rfl
theorem pnX_uI (P : gP) (k0 r0 i0 s0 : Nat) (v : Int32)  : pnX (uI P k0 r0 i0 s0 v) = pnX P := rfl
theorem pI_uJ (P : gP) (s0 : Nat) (v : Int64) (k r i s : Nat) : pI (uJ P s0 v) k r i s = pI P k r i s := rfl
theorem pJ_uJ (P : gP) (s0 : Nat) (v : Int64) (s : Nat) : pJ (uJ P s0 v) s = if s = s0 then v else pJ P s := rfl
theorem pRD_uJ (P : gP) (s0 : Nat) (v : Int64) (r i j : Nat) : pRD (uJ P s0 v) r i j = pRD P r i j := rfl
theorem pPL_uJ (P : gP) (s0 : Nat) (v : Int64) (r i j : Nat) : pPL (uJ P s0 v) r i j = pPL P r i j := rfl
theorem pGL_uJ (P : gP) (s0 : Nat) (v : Int64) (g : Nat) : pGL (uJ P s0 v) g = pGL P g := rfl
theorem pnR_uJ (P : gP) (s0 : Nat) (v : Int64)  : pnR (uJ P s0 v) = pnR P := rfl
theorem pnG_uJ (P : gP) (s0 : Nat) (v : Int64)  : pnG (uJ P s0 v) = pnG P := rfl
theorem pnB_uJ (P : gP) (s0 : Nat) (v : Int64) (r : Nat) : pnB (uJ P s0 v) r = pnB P r := rfl
theorem pnT_uJ (P : gP) (s0 : Nat) (v : Int64) (r : Nat) : pnT (uJ P s0 v) r = pnT P r := rfl
theorem pnX_uJ (P : gP) (s0 : Nat) (v : Int64)  : pnX (uJ P s0 v) = pnX P := rfl
theorem pI_uRD (P : gP) (r0 i0 j0 : Nat) (v : Option Nat) (k r i s : Nat) : pI (uRD P r0 i0 j0 v) k r i s = pI P k r i s := rfl
theorem pJ_uRD (P : gP) (r0 i0 j0 : Nat) (v : Option Nat) (s : Nat) : pJ (uRD P r0 i0 j0 v) s = pJ P s := rfl
theorem pRD_uRD (P : gP) (r0 i0 j0 : Nat) (v : Option Nat) (r i j : Nat) : pRD (uRD P r0 i0 j0 v) r i j = if r = r0 ∧ i = i0 ∧ j = j0 then v else pRD P r i j := rfl
theorem pPL_uRD (P : gP) (r0 i0 j0 : Nat) (v : Option Nat) (r i j : Nat) : pPL (uRD P r0 i0 j0 v) r i j = pPL P r i j := rfl
theorem pGL_uRD (P : gP) (r0 i0 j0 : Nat) (v : Option Nat) (g : Nat) : pGL (uRD P r0 i0 j0 v) g = pGL P g := rfl
theorem pnR_uRD (P : gP) (r0 i0 j0 : Nat) (v : Option Nat)  : pnR (uRD P r0 i0 j0 v) = pnR P := rfl
theorem pnG_uRD (P : gP) (r0 i0 j0 : Nat) (v : Option Nat)  : pnG (uRD P r0 i0 j0 v) = pnG P := rfl
theorem pnB_uRD (P : gP) (r0 i0 j0 : Nat) (v : Option Nat) (r : Nat) : pnB (uRD P r0 i0 j0 v) r = pnB P r := rfl
theorem pnT_uRD (P : gP) (r0 i0 j0 : Nat) (v : Option Nat) (r : Nat) : pnT (uRD P r0 i0 j0 v) r = pnT P r := rfl
theorem pnX_uRD (P : gP) (r0 i0 j0 : Nat) (v : Option Nat)  : pnX (uRD P r0 i0 j0 v) = pnX P := rfl
theorem pI_uPL (P : gP) (r0 i0 j0 : Nat) (v : Option Nat) (k r i s : Nat) : pI (uPL P r0 i0 j0 v) k r i s = pI P k r i s := rfl
theorem pJ_uPL (P : gP) (r0 i0 j0 : Nat) (v : Option Nat) (s : Nat) : pJ (uPL P r0 i0 j0 v) s = pJ P s := rfl
theorem pRD_uPL (P : gP) (r0 i0 j0 : Nat) (v : Option Nat) (r i j : Nat) : pRD (uPL P r0 i0 j0 v) r i j = pRD P r i j := rfl
theorem pPL_uPL (P : gP) (r0 i0 j0 : Nat) (v : Option Nat) (r i j : Nat) : pPL (uPL P r0 i0 j0 v) r i j = if r = r0 ∧ i = i0 ∧ j = j0 then v else pPL P r i j := rfl
theorem pGL_uPL (P : gP) (r0 i0 j0 : Nat) (v : Option Nat) (g : Nat) : pGL (uPL P r0 i0 j0 v) g = pGL P g := rfl
theorem pnR_uPL (P : gP) (r0 i0 j0 : Nat) (v : Option Nat)  : pnR (uPL P r0 i0 j0 v) = pnR P := rfl
theorem pnG_uPL (P : gP) (r0 i0 j0 : Nat) (v : Option Nat)  : pnG (uPL P r0 i0 j0 v) = pnG P := rfl
theorem pnB_uPL (P : gP) (r0 i0 j0 : Nat) (v : Option Nat) (r : Nat) : pnB (uPL P r0 i0 j0 v) r = pnB P r := rfl
theorem pnT_uPL (P : gP) (r0 i0 j0 : Nat) (v : Option Nat) (r : Nat) : pnT (uPL P r0 i0 j0 v) r = pnT P r := rfl
theorem pnX_uPL (P : gP) (r0 i0 j0 : Nat) (v : Option Nat)  : pnX (uPL P r0 i0 j0 v) = pnX P := rfl
theorem pI_uGL (P : gP) (g0 : Nat) (v : Option (Nat × Nat)) (k r i s : Nat) : pI (uGL P g0 v) k r i s = pI P k r i s := rfl
theorem pJ_uGL (P : gP) (g0 : Nat) (v : Option (Nat × Nat)) (s : Nat) : pJ (uGL P g0 v) s = pJ P s := rfl
theorem pRD_uGL (P : gP) (g0 : Nat) (v : Option (Nat × Nat)) (r i j : Nat) : pRD (uGL P g0 v) r i j = pRD P r i j := rfl
theorem pPL_uGL (P : gP) (g0 : Nat) (v : Option (Nat × Nat)) (r i j : Nat) : pPL (uGL P g0 v) r i j = pPL P r i j := rfl
theorem pGL_uGL (P : gP) (g0 : Nat) (v : Option (Nat × Nat)) (g : Nat) : pGL (uGL P g0 v) g = if g = g0 then v else pGL P g := rfl
theorem pnR_uGL (P : gP) (g0 : Nat) (v : Option (Nat × Nat))  : pnR (uGL P g0 v) = pnR P := rfl
theorem pnG_uGL (P : gP) (g0 : Nat) (v : Option (Nat × Nat))  : pnG (uGL P g0 v) = pnG P := rfl
theorem pnB_uGL (P : gP) (g0 : Nat) (v : Option (Nat × Nat)) (r : Nat) : pnB (uGL P g0 v) r = pnB P r := rfl
theorem pnT_uGL (P : gP) (g0 : Nat) (v : Option (Nat × Nat)) (r : Nat) : pnT (uGL P g0 v) r = pnT P r := rfl
theorem pnX_uGL (P : gP) (g0 : Nat) (v : Option (Nat × Nat))  : pnX (uGL P g0 v) = pnX P := rfl
theorem pI_unR (P : gP) (v : Nat) (k r i s : Nat) : pI (unR P v) k r i s = pI P k r i s := rfl
theorem pJ_unR (P : gP) (v : Nat) (s : Nat) : pJ (unR P v) s = pJ P s := rfl
theorem pRD_unR (P : gP) (v : Nat) (r i j : Nat) : pRD (unR P v) r i j = pRD P r i j := rfl
theorem pPL_unR (P : gP) (v : Nat) (r i j : Nat) : pPL (unR P v) r i j = pPL P r i j := rfl
theorem pGL_unR (P : gP) (v : Nat) (g : Nat) : pGL (unR P v) g = pGL P g := rfl
theorem pnR_unR (P : gP) (v : Nat) : pnR (unR P v) = v := rfl
theorem pnG_unR (P : gP) (v : Nat)  : pnG (unR P v) = pnG P := rfl
theorem pnB_unR (P : gP) (v : Nat) (r : Nat) : pnB (unR P v) r = pnB P r := rfl
theorem pnT_unR (P : gP) (v : Nat) (r : Nat) : pnT (unR P v) r = pnT P r := rfl
theorem pnX_unR (P : gP) (v : Nat)  : pnX (unR P v) = pnX P := rfl
theorem pI_unG (P : gP) (v : Nat) (k r i s : Nat) : pI (unG P v) k r i s = pI P k r i s := rfl
theorem pJ_unG (P : gP) (v : Nat) (s : Nat) : pJ (unG P v) s = pJ P s := rfl
theorem pRD_unG (P : gP) (v : Nat) (r i j : Nat) : pRD (unG P v) r i j = pRD P r i j := rfl
theorem pPL_unG (P : gP) (v : Nat) (r i j : Nat) : pPL (unG P v) r i j = pPL P r i j := rfl
theorem pGL_unG (P : gP) (v : Nat) (g : Nat) : pGL (unG P v) g = pGL P g := rfl
theorem pnR_unG (P : gP) (v : Nat)  : pnR (unG P v) = pnR P := rfl
theorem pnG_unG (P : gP) (v : Nat) : pnG (unG P v) = v := rfl
theorem pnB_unG (P : gP) (v : Nat) (r : Nat) : pnB (unG P v) r = pnB P r := rfl
theorem pnT_unG (P : gP) (v : Nat) (r : Nat) : pnT (unG P v) r = pnT P r := rfl
theorem pnX_unG (P : gP) (v : Nat)  : pnX (unG P v) = pnX P := rfl
theorem pI_unB (P : gP) (r0 : Nat) (v : Nat) (k r i s : Nat) : pI (unB P r0 v) k r i s = pI P k r i s := rfl
theorem pJ_unB (P : gP) (r0 : Nat) (v : Nat) (s : Nat) : pJ (unB P r0 v) s = pJ P s := rfl
theorem pRD_unB (P : gP) (r0 : Nat) (v : Nat) (r i j : Nat) : pRD (unB P r0 v) r i j = pRD P r i j := rfl
theorem pPL_unB (P : gP) (r0 : Nat) (v : Nat) (r i j : Nat) : pPL (unB P r0 v) r i j = pPL P r i j := rfl
theorem pGL_unB (P : gP) (r0 : Nat) (v : Nat) (g : Nat) : pGL (unB P r0 v) g = pGL P g := rfl
theorem pnR_unB (P : gP) (r0 : Nat) (v : Nat)  : pnR (unB P r0 v) = pnR P := rfl
theorem pnG_unB (P : gP) (r0 : Nat) (v : Nat)  : pnG (unB P r0 v) = pnG P := rfl
theorem pnB_unB (P : gP) (r0 : Nat) (v : Nat) (r : Nat) : pnB (unB P r0 v) r = if r = r0 then v else pnB P r := rfl
theorem pnT_unB (P : gP) (r0 : Nat) (v : Nat) (r : Nat) : pnT (unB P r0 v) r = pnT P r := rfl
theorem pnX_unB (P : gP) (r0 : Nat) (v : Nat)  : pnX (unB P r0 v) = pnX P := rfl
theorem pI_unT (P : gP) (r0 : Nat) (v : Nat) (k r i s : Nat) : pI (unT P r0 v) k r i s = pI P k r i s := rfl
theorem pJ_unT (P : gP) (r0 : Nat) (v : Nat) (s : Nat) : pJ (unT P r0 v) s = pJ P s := rfl
theorem pRD_unT (P : gP) (r0 : Nat) (v : Nat) (r i j : Nat) : pRD (unT P r0 v) r i j = pRD P r i j := rfl
theorem pPL_unT (P : gP) (r0 : Nat) (v : Nat) (r i j : Nat) : pPL (unT P r0 v) r i j = pPL P r i j := rfl
theorem pGL_unT (P : gP) (r0 : Nat) (v : Nat) (g : Nat) : pGL (unT P r0 v) g = pGL P g := rfl
theorem pnR_unT (P : gP) (r0 : Nat) (v : Nat)  : pnR (unT P r0 v) = pnR P := rfl
theorem pnG_unT (P : gP) (r0 : Nat) (v : Nat)  : pnG (unT P r0 v) = pnG P := rfl
theorem pnB_unT (P : gP) (r0 : Nat) (v : Nat) (r : Nat) : pnB (unT P r0 v) r = pnB P r := rfl
theorem pnT_unT (P : gP) (r0 : Nat) (v : Nat) (r : Nat) : pnT (unT P r0 v) r = if r = r0 then v else pnT P r := rfl
theorem pnX_unT (P : gP) (r0 : Nat) (v : Nat)  : pnX (unT P r0 v) = pnX P := rfl
theorem pI_unX (P : gP) (v : Nat) (k r i s : Nat) : pI (unX P v) k r i s = pI P k r i s := rfl
theorem pJ_unX (P : gP) (v : Nat) (s : Nat) : pJ (unX P v) s = pJ P s := rfl
theorem pRD_unX (P : gP) (v : Nat) (r i j : Nat) : pRD (unX P v) r i j = pRD P r i j := rfl
theorem pPL_unX (P : gP) (v : Nat) (r i j : Nat) : pPL (unX P v) r i j = pPL P r i j := rfl
theorem pGL_unX (P : gP) (v : Nat) (g : Nat) : pGL (unX P v) g = pGL P g := rfl
theorem pnR_unX (P : gP) (v : Nat)  : pnR (unX P v) = pnR P := rfl
theorem pnG_unX (P : gP) (v : Nat)  : pnG (unX P v) = pnG P := rfl
theorem pnB_unX (P : gP) (v : Nat) (r : Nat) : pnB (unX P v) r = pnB P r := rfl
theorem pnT_unX (P : gP) (v : Nat) (r : Nat) : pnT (unX P v) r = pnT P r := rfl
theorem pnX_unX (P : gP) (v : Nat) : pnX (unX P v) = v := rfl
/-- which objects there are -/
def gLive (P : gP) (k r i : Nat) : Prop := match k with
  | 0 => r < pnR P ∧ i < pnB P r
  | 1 => r < pnG P ∧ i = 0
  | 2 => r < pnR P ∧ i < 3
  | 3 => r < pnR P ∧ i = 0
  | 4 => r < pnR P ∧ i = 0
  | 5 => r < pnR P ∧ i < pnT P r
  | 6 => r = 0 ∧ i = 0
  | 7 => r = 0 ∧ i = 0
  | 8 => r = 0 ∧ i = 0
  | 9 => r = 0 ∧ i = 0
  | 10 => r < pnR P ∧ i = 0
  | 11 => r < pnR P ∧ i = 0
  | 12 => r < pnR P ∧ i < pnT P r
  | 13 => r < pnR P ∧ i < 3
  | 14 => r = 0 ∧ i = 0 ∧ pnX P = 1
  | _ => False
abbrev gAd : Type := Nat → Nat → Nat → Nat
abbrev gRow (f : Nat → Option Nat) : (Nat → Int32) ⊕ (Nat → Int64) ⊕ (Nat → UInt32) ⊕ (Nat → UInt64) ⊕ (Nat → Option Nat) := .inr (.inr (.inr (.inr f)))
/-- what each holds -/
def gCell (cA : Nat → ClassId) (ad : gAd) (P : gP) (k r i : Nat) : va_E := match k with
  | 0 => .inr (2, [.int (pI P 0 r i 0), .int (pI P 0 r i 1), .int (pI P 0 r i 2), .int (pI P 0 r i 3), .int (pI P 0 r i 4), .int (pI P 0 r i 5)])
  | 1 => .inr (3, [.int (pI P 1 r i 0), .int (pI P 1 r i 1), .int (pI P 1 r i 2), .int (pI P 1 r i 3), .int (pI P 1 r i 4), .int (pI P 1 r i 5), .int (pI P 1 r i 6), .int (pI P 1 r i 7), .int (pI P 1 r i 8), va_rf ((pGL P r).map (fun q => ad 2 q.1 q.2)), .int (pI P 1 r i 10)])
  | 2 => .inr (4, [.ref (ad 13 r i), .int (pI P 2 r i 1)])
  | 3 => .inr (5, [.int (pI P 3 r i 0), .int (pI P 3 r i 1), .int (pI P 3 r i 2), .ref (ad 4 r 0), .ref (ad 11 r 0), .int (nI (pnT P r)), .ref (ad 2 r 0), .ref (ad 2 r 1), .ref (ad 2 r 2), .int (pI P 3 r i 9), .int (pI P 3 r i 10), .int (pI P 3 r i 11), .int (pI P 3 r i 12), .int (pI P 3 r i 13), .int (pI P 3 r i 14)])
  | 4 => .inr (6, [.ref (ad 10 r 0), .int (nI (pnB P r)), .int (pI P 4 r i 2)])
  | 5 => .inr (7, [.int (pI P 5 r i 0), .ref (ad 12 r i), .int (pI P 5 r i 2), .int (pI P 5 r i 3), .int (pI P 5 r i 4), .int (pI P 5 r i 5), .int (pI P 5 r i 6), .int (pI P 5 r i 7), .int (pI P 5 r i 8)])
  | 6 => .inr (8, [.ref (ad 7 0 0), .int (nI (pnR P)), .ref (ad 8 0 0), .int (pI P 6 r i 3), .ref (ad 9 0 0), .int (nI (pnG P)), .int (pI P 6 r i 6), .int (pI P 6 r i 7), .int (pI P 6 r i 8), .int (pI P 6 r i 9), .long (pJ P 10), .long (pJ P 11), .long (pJ P 12)])
  | 7 => .inl (cA 0, 4, gRow (fun j => if j < pnR P then some (ad 3 j 0) else none))
  | 8 => .inl (cA 1, 8, .inl (fun j => pI P 8 r i j))
  | 9 => .inl (cA 2, 60, gRow (fun j => if j < pnG P then some (ad 1 j 0) else none))
  | 10 => .inl (cA 3, 12, gRow (fun j => if j < pnB P r then some (ad 0 r j) else none))
  | 11 => .inl (cA 4, 4, gRow (fun j => if j < pnT P r then some (ad 5 r j) else none))
  | 12 => .inl (cA 2, 8, gRow (fun j => (pRD P r i j).map (fun g => ad 1 g 0)))
  | 13 => .inl (cA 2, 60, gRow (fun j => (pPL P r i j).map (fun g => ad 1 g 0)))
  | 14 => .inl (cA 1, 12, .inl (fun j => pI P 14 r i j))
  | _ => .inr (0, [])
/-- the abstract heap holds the state -/
def gRep (Z : gEnv) (ad : gAd) (P : gP) (h : gH) : Prop :=
  (∀ k r i, gLive P k r i → h (ad k r i) = some (gCell Z.2.2.2.1 ad P k r i)) ∧ ∀ k r i k' r' i', gLive P k r i → gLive P k' r' i' → ad k r i = ad k' r' i' → k = k' ∧ r = r' ∧ i = i'
/-- the arrays' classes, and no stack traces -/
def gG (Z : gEnv) : Prop := Z.2.1 = [(Z.2.2.2.1 0, .object "Coasterland$Ride"), (Z.2.2.2.1 1, .int), (Z.2.2.2.1 2, .object "Coasterland$Guest"), (Z.2.2.2.1 3, .object "Coasterland$Block"), (Z.2.2.2.1 4, .object "Coasterland$Train")] ∧ Z.2.2.2.2.stackTraces = false
theorem gG.t0 {Z : gEnv} (G : gG Z) : gTy Z 0 (.object "Coasterland$Ride") := by unfold gTy; rw [G.1]; rfl
theorem gG.t1 {Z : gEnv} (G : gG Z) : gTy Z 1 .int := by unfold gTy; rw [G.1]; rfl
theorem gG.t2 {Z : gEnv} (G : gG Z) : gTy Z 2 (.object "Coasterland$Guest") := by unfold gTy; rw [G.1]; rfl
theorem gG.t3 {Z : gEnv} (G : gG Z) : gTy Z 3 (.object "Coasterland$Block") := by unfold gTy; rw [G.1]; rfl
theorem gG.t4 {Z : gEnv} (G : gG Z) : gTy Z 4 (.object "Coasterland$Train") := by unfold gTy; rw [G.1]; rfl
/-- slots that hold a number of pI -/
def gIntSlot (k j : Nat) : Bool := match k with
  | 0 => decide (j < 6)
  | 1 => decide (j < 9) || decide (j = 10)
  | 2 => decide (j = 1)
  | 3 => decide (j < 3) || (decide (9 ≤ j) && decide (j < 15))
  | 4 => decide (j = 2)
  | 5 => decide (j = 0) || (decide (2 ≤ j) && decide (j < 9))
  | 6 => decide (j = 3) || (decide (6 ≤ j) && decide (j < 10))
  | _ => false
theorem gLive_uI (P : gP) (k0 r0 i0 s0 : Nat) (v : Int32) (k r i : Nat) : gLive (uI P k0 r0 i0 s0 v) k r i = gLive P k r i := rfl
theorem gLive_uJ (P : gP) (s0 : Nat) (v : Int64) (k r i : Nat) : gLive (uJ P s0 v) k r i = gLive P k r i := rfl
theorem gLive_uRD (P : gP) (r0 i0 j0 : Nat) (v : Option Nat) (k r i : Nat) : gLive (uRD P r0 i0 j0 v) k r i = gLive P k r i := rfl
theorem gLive_uPL (P : gP) (r0 i0 j0 : Nat) (v : Option Nat) (k r i : Nat) : gLive (uPL P r0 i0 j0 v) k r i = gLive P k r i := rfl
theorem gLive_uGL (P : gP) (g0 : Nat) (v : Option (Nat × Nat)) (k r i : Nat) : gLive (uGL P g0 v) k r i = gLive P k r i := rfl
theorem gCell_uI_ne {cA : Nat → ClassId} {ad : gAd} {P : gP} {k0 r0 i0 s0 : Nat} {v : Int32} {k r i : Nat} (hne : ¬ (k = k0 ∧ r = r0 ∧ i = i0)) : gCell cA ad (uI P k0 r0 i0 s0 v) k r i = gCell cA ad P k r i := by
  have e : ∀ s, pI (uI P k0 r0 i0 s0 v) k r i s = pI P k r i s := fun s => if_neg (fun hh => hne ⟨hh.1, hh.2.1, hh.2.2.1⟩)
  rcases k with _ | _ | _ | _ | _ | _ | _ | _ | _ | _ | _ | _ | _ | _ | _ | k <;> (try simp only [Nat.zero_add, Nat.reduceAdd] at e) <;> (try simp only [gCell, e, Nat.zero_add, Nat.reduceAdd]) <;> rfl
theorem gCell_uI_eq {cA : Nat → ClassId} {ad : gAd} {P : gP} {k r i j ci : Nat} {v : Int32} {fs : List Value} (hs : gIntSlot k j = true) (hc : gCell cA ad P k r i = .inr (ci, fs)) : gCell cA ad (uI P k r i j v) k r i = .inr (ci, fs.set j (.int v)) ∧ j < fs.length := by
  rcases k with _ | _ | _ | _ | _ | _ | _ | k
  all_goals first
    | (exfalso; simp [gIntSlot] at hs; done)
    | (simp only [Nat.zero_add, Nat.reduceAdd, gCell] at hc
       cases hc
       rcases j with _ | _ | _ | _ | _ | _ | _ | _ | _ | _ | _ | _ | _ | _ | _ | j
       all_goals first
         | (exfalso; revert hs; simp [gIntSlot]; done)
         | (exfalso; revert hs; simp [gIntSlot]; omega)
         | (refine ⟨?_, by simp⟩; simp [gCell, pI_uI, pnT_uI, pnB_uI, pnR_uI, pnG_uI, pJ_uI, pGL_uI]))
theorem gRep.putI {Z : gEnv} {ad : gAd} {P : gP} {h : gH} {k r i j ci : Nat} {v : Int32} {fs : List Value} (hR : gRep Z ad P h) (hl : gLive P k r i) (hs : gIntSlot k j = true) (hc : gCell Z.2.2.2.1 ad P k r i = .inr (ci, fs)) : gRep Z ad (uI P k r i j v) (va_up h (ad k r i) (some (.inr (ci, fs.set j (.int v))))) := by
  refine ⟨fun k' r' i' hl' => ?_, hR.2⟩
  have hl'' : gLive P k' r' i' := hl'
  by_cases he : k' = k ∧ r' = r ∧ i' = i
  · obtain ⟨rfl, rfl, rfl⟩ := he
    rw [(gCell_uI_eq hs hc).1]
    simp [va_up]
  · have hne : ad k' r' i' ≠ ad k r i := fun e => he (hR.2 _ _ _ _ _ _ hl'' hl e)
    simp only [va_up, if_neg hne]
    rw [gCell_uI_ne he]
    exact hR.1 _ _ _ hl''
theorem gRep.chg {Z : gEnv} {ad : gAd} {P P' : gP} {h : gH} {k r i : Nat} {x : va_E} (hR : gRep Z ad P h) (hl : gLive P k r i) (hlv : ∀ k r i, gLive P' k r i = gLive P k r i) (h1 : gCell Z.2.2.2.1 ad P' k r i = x) (h2 : ∀ k' r' i', ¬ (k' = k ∧ r' = r ∧ i' = i) → gLive P k' r' i' → gCell Z.2.2.2.1 ad P' k' r' i' = gCell Z.2.2.2.1 ad P k' r' i') : gRep Z ad P' (va_up h (ad k r i) (some x)) := by
  refine ⟨fun k' r' i' hl' => ?_, fun k r i k' r' i' a b => hR.2 k r i k' r' i' (by rw [← hlv]; exact a) (by rw [← hlv]; exact b)⟩
  have hl'' : gLive P k' r' i' := by rw [← hlv]; exact hl'
  by_cases he : k' = k ∧ r' = r ∧ i' = i
  · obtain ⟨rfl, rfl, rfl⟩ := he
    rw [h1]
    simp [va_up]
  · have hne : ad k' r' i' ≠ ad k r i := fun e => he (hR.2 _ _ _ _ _ _ hl'' hl e)
    simp only [va_up, if_neg hne]
    rw [h2 k' r' i' he hl'']
    exact hR.1 _ _ _ hl''
theorem gCell_uJ_ne {cA : Nat → ClassId} {ad : gAd} {P : gP} {s0 : Nat} {v : Int64} {k r i : Nat} (hne : ¬ (k = 6 ∧ r = 0 ∧ i = 0)) (hl : gLive P k r i) : gCell cA ad (uJ P s0 v) k r i = gCell cA ad P k r i := by
  rcases k with _ | _ | _ | _ | _ | _ | _ | _ | _ | _ | _ | _ | _ | _ | _ | k
  all_goals first
    | rfl
    | exact absurd ⟨rfl, hl⟩ hne
theorem gRep.putJ {Z : gEnv} {ad : gAd} {P : gP} {h : gH} {j : Nat} {v : Int64} {fs : List Value} (hR : gRep Z ad P h) (hs : 10 ≤ j ∧ j < 13) (hc : gCell Z.2.2.2.1 ad P 6 0 0 = .inr (8, fs)) : gRep Z ad (uJ P j v) (va_up h (ad 6 0 0) (some (.inr (8, fs.set j (.long v))))) ∧ j < fs.length := by
  cases hc
  refine ⟨hR.chg ⟨rfl, rfl⟩ (fun _ _ _ => rfl) ?_ (fun k' r' i' h1 h2 => gCell_uJ_ne h1 h2), by simp; omega⟩
  rcases (show j = 10 ∨ j = 11 ∨ j = 12 by omega) with rfl | rfl | rfl <;> simp [gCell, pJ_uJ, pI_uJ, pnR_uJ, pnG_uJ]
theorem gCell_uGL_ne {cA : Nat → ClassId} {ad : gAd} {P : gP} {g0 : Nat} {v : Option (Nat × Nat)} {k r i : Nat} (hne : ¬ (k = 1 ∧ r = g0 ∧ i = 0)) (hl : gLive P k r i) : gCell cA ad (uGL P g0 v) k r i = gCell cA ad P k r i := by
  rcases k with _ | _ | _ | _ | _ | _ | _ | _ | _ | _ | _ | _ | _ | _ | _ | k
  all_goals first
    | rfl
    | (have hl2 : i = 0 := hl.2
       have hr : r ≠ g0 := fun e => hne ⟨rfl, e, hl2⟩
       simp [gCell, pGL_uGL, pI_uGL, hr])
theorem gRep.putGL {Z : gEnv} {ad : gAd} {P : gP} {h : gH} {g : Nat} {v : Option (Nat × Nat)} {fs : List Value} (hR : gRep Z ad P h) (hl : gLive P 1 g 0) (hc : gCell Z.2.2.2.1 ad P 1 g 0 = .inr (3, fs)) : gRep Z ad (uGL P g v) (va_up h (ad 1 g 0) (some (.inr (3, fs.set 9 (va_rf (v.map (fun q => ad 2 q.1 q.2))))))) ∧ 9 < fs.length := by
  cases hc
  refine ⟨hR.chg hl (fun _ _ _ => rfl) ?_ (fun k' r' i' h1 h2 => gCell_uGL_ne h1 h2), by simp⟩
  simp [gCell, pGL_uGL, pI_uGL]
theorem gCell_uRD_ne {cA : Nat → ClassId} {ad : gAd} {P : gP} {r0 i0 j0 : Nat} {v : Option Nat} {k r i : Nat} (hne : ¬ (k = 12 ∧ r = r0 ∧ i = i0)) : gCell cA ad (uRD P r0 i0 j0 v) k r i = gCell cA ad P k r i := by
  have e : k = 12 → ∀ j, pRD (uRD P r0 i0 j0 v) r i j = pRD P r i j := fun hk j => if_neg (fun hh => hne ⟨hk, hh.1, hh.2.1⟩)
  rcases k with _ | _ | _ | _ | _ | _ | _ | _ | _ | _ | _ | _ | _ | _ | _ | k
  all_goals first
    | rfl
    | (simp only [gCell, e rfl]; done)
theorem gRep.astRD {Z : gEnv} {ad : gAd} {P : gP} {h : gH} {r i j : Nat} {v : Option Nat} (hR : gRep Z ad P h) (hl : gLive P 12 r i) : gRep Z ad (uRD P r i j v) (va_up h (ad 12 r i) (some (.inl (Z.2.2.2.1 2, 8, gRow (va_up (fun j => (pRD P r i j).map (fun g => ad 1 g 0)) j (v.map (fun g => ad 1 g 0))))))) := by
  refine hR.chg hl (fun _ _ _ => rfl) ?_ (fun k' r' i' h1 _ => gCell_uRD_ne h1)
  simp only [gCell, gRow]
  congr 7
  funext j'
  by_cases hj : j' = j <;> simp [va_up, pRD_uRD, hj]
theorem gCell_uPL_ne {cA : Nat → ClassId} {ad : gAd} {P : gP} {r0 i0 j0 : Nat} {v : Option Nat} {k r i : Nat} (hne : ¬ (k = 13 ∧ r = r0 ∧ i = i0)) : gCell cA ad (uPL P r0 i0 j0 v) k r i = gCell cA ad P k r i := by
  have e : k = 13 → ∀ j, pPL (uPL P r0 i0 j0 v) r i j = pPL P r i j := fun hk j => if_neg (fun hh => hne ⟨hk, hh.1, hh.2.1⟩)
  rcases k with _ | _ | _ | _ | _ | _ | _ | _ | _ | _ | _ | _ | _ | _ | _ | k
  all_goals first
    | rfl
    | (simp only [gCell, e rfl]; done)
theorem gRep.astPL {Z : gEnv} {ad : gAd} {P : gP} {h : gH} {r i j : Nat} {v : Option Nat} (hR : gRep Z ad P h) (hl : gLive P 13 r i) : gRep Z ad (uPL P r i j v) (va_up h (ad 13 r i) (some (.inl (Z.2.2.2.1 2, 60, gRow (va_up (fun j => (pPL P r i j).map (fun g => ad 1 g 0)) j (v.map (fun g => ad 1 g 0))))))) := by
  refine hR.chg hl (fun _ _ _ => rfl) ?_ (fun k' r' i' h1 _ => gCell_uPL_ne h1)
  simp only [gCell, gRow]
  congr 7
  funext j'
  by_cases hj : j' = j <;> simp [va_up, pPL_uPL, hj]
theorem gRep.astC {Z : gEnv} {ad : gAd} {P : gP} {h : gH} {j : Nat} {v : Int32} (hR : gRep Z ad P h) : gRep Z ad (uI P 8 0 0 j v) (va_up h (ad 8 0 0) (some (.inl (Z.2.2.2.1 1, 8, .inl (upd (fun j => pI P 8 0 0 j) j v))))) := by
  refine hR.chg (k := 8) (r := 0) (i := 0) ⟨rfl, rfl⟩ (fun _ _ _ => rfl) ?_ (fun k' r' i' h1 _ => gCell_uI_ne h1)
  simp only [gCell]
  congr 4
  funext j'
  by_cases hj : j' = j <;> simp [upd, pI_uI, hj]
theorem gRep.astX {Z : gEnv} {ad : gAd} {P : gP} {h : gH} {j : Nat} {v : Int32} (hR : gRep Z ad P h) (hl : gLive P 14 0 0) : gRep Z ad (uI P 14 0 0 j v) (va_up h (ad 14 0 0) (some (.inl (Z.2.2.2.1 1, 12, .inl (upd (fun j => pI P 14 0 0 j) j v))))) := by
  refine hR.chg hl (fun _ _ _ => rfl) ?_ (fun k' r' i' h1 _ => gCell_uI_ne h1)
  simp only [gCell]
  congr 4
  funext j'
  by_cases hj : j' = j <;> simp [upd, pI_uI, hj]
end GSTATE
end
section
/-! rows of GJ over the state of the park -/
section GPROWS
variable {Z : gEnv} {Γ : gCtx} {cc : ByteArray} {own : String} {nL : Nat} {ret : Option FieldType} {h : gH} {k n pc : Nat} {lv lv' : List (Nat × Value)} {st st' : List Value} {ad : gAd} {P : gP}
theorem GJ.leq (hs : lv = lv') (kk : GJ Z Γ h k n pc lv' st) : GJ Z Γ h k n pc lv st := by rw [hs]; exact kk
theorem GJ.seq (hs : st = st') (kk : GJ Z Γ h k n pc lv st') : GJ Z Γ h k n pc lv st := by rw [hs]; exact kk
theorem GX.leq {E : String} (hs : lv = lv') (kk : GX Z Γ h k n pc lv' st E) : GX Z Γ h k n pc lv st E := by rw [hs]; exact kk
theorem gp_iinc {i : Nat} {c : Int} {x : Int32} (j : Nat) (X : gOK Z Γ cc own nL ret) (d : decode cc pc = .ok (.iinc i c, 3)) (hj : lv[j]? = some (i, .int x)) (hn : i < nL) (kk : ∀ v : Int32, v = x + Int32.ofInt c → GJ Z Γ h k n (pc + 3) (gSet1 lv i (.int v)) st) : GJ Z Γ h k n pc lv st := g_iinc j X d hj hn (fun v e lv2 h2 => by rw [← h2]; exact kk v e)
theorem gp_get {kd r i ci j N index : Nat} {C : String} {T : u_T} {ty : Nat → FieldType} {fs : List Value} {v : Value} (X : gOK Z Γ cc own nL ret) (hR : gRep Z ad P h) (hl : gLive P kd r i) (K : gCls ci C T ty N) (hlk : Cond.fieldLink own index C (T j).2.1 (T j).2.2.1 ∈ gT) (hT : (T j).1 = C) (hj : j < N)
    (hc : gCell Z.2.2.2.1 ad P kd r i = .inr (ci, fs)) (hv : fs[j]? = some v) (d : decode cc pc = .ok (.getfield index, 3)) (kk : GJ Z Γ h k n (pc + 3) lv (v :: st)) : GJ Z Γ h k n pc lv (.ref (ad kd r i) :: st) := g_get X K hlk hT hj (by rw [hR.1 _ _ _ hl, hc]) hv d kk
theorem gp_geti {kd r i ci j N index : Nat} {C : String} {T : u_T} {ty : Nat → FieldType} {fs : List Value} {v : Int32} (X : gOK Z Γ cc own nL ret) (hR : gRep Z ad P h) (hl : gLive P kd r i) (K : gCls ci C T ty N) (hlk : Cond.fieldLink own index C (T j).2.1 (T j).2.2.1 ∈ gT) (hT : (T j).1 = C) (hj : j < N)
    (hc : gCell Z.2.2.2.1 ad P kd r i = .inr (ci, fs)) (hv : fs[j]? = some (.int v)) (d : decode cc pc = .ok (.getfield index, 3)) (kk : ∀ x : Int32, x = v → GJ Z Γ h k n (pc + 3) lv (.int x :: st)) : GJ Z Γ h k n pc lv (.ref (ad kd r i) :: st) := gp_get X hR hl K hlk hT hj hc hv d (kk v rfl)
theorem gp_getl {kd r i ci j N index : Nat} {C : String} {T : u_T} {ty : Nat → FieldType} {fs : List Value} {v : Int64} (X : gOK Z Γ cc own nL ret) (hR : gRep Z ad P h) (hl : gLive P kd r i) (K : gCls ci C T ty N) (hlk : Cond.fieldLink own index C (T j).2.1 (T j).2.2.1 ∈ gT) (hT : (T j).1 = C) (hj : j < N)
    (hc : gCell Z.2.2.2.1 ad P kd r i = .inr (ci, fs)) (hv : fs[j]? = some (.long v)) (d : decode cc pc = .ok (.getfield index, 3)) (kk : ∀ x : Int64, x = v → GJ Z Γ h k n (pc + 3) lv (.long x :: st)) : GJ Z Γ h k n pc lv (.ref (ad kd r i) :: st) := gp_get X hR hl K hlk hT hj hc hv d (kk v rfl)
theorem gp_puti {kd r i ci j N index : Nat} {C : String} {T : u_T} {ty : Nat → FieldType} {fs : List Value} {v : Int32} (X : gOK Z Γ cc own nL ret) (hR : gRep Z ad P h) (hl : gLive P kd r i) (K : gCls ci C T ty N) (hlk : Cond.fieldLink own index C (T j).2.1 (T j).2.2.1 ∈ gT) (hT : (T j).1 = C) (hj : j < N)
    (hc : gCell Z.2.2.2.1 ad P kd r i = .inr (ci, fs)) (hs : gIntSlot kd j = true) (hfin : (T j).2.2.2 = false) (hn : narrow (ty j) (.int v) = .int v) (hfit : fits (ty j) (.int v) = true) (d : decode cc pc = .ok (.putfield index, 3))
    (kk : ∀ h' : gH, gRep Z ad (uI P kd r i j v) h' → GJ Z Γ h' k n (pc + 3) lv st) : GJ Z Γ h k n pc lv (.int v :: .ref (ad kd r i) :: st) :=
  g_put X K hlk hT hj (by rw [hR.1 _ _ _ hl, hc]) hfin hn hfit (gCell_uI_eq (v := v) hs hc).2 d (kk _ (hR.putI hl hs hc))
theorem gp_putj {j index : Nat} {v : Int64} (X : gOK Z Γ cc own nL ret) (hR : gRep Z ad P h) (hj : 10 ≤ j ∧ j < 13) (hlk : Cond.fieldLink own index RX6 (TX6 j).2.1 (TX6 j).2.2.1 ∈ gT) (hT : (TX6 j).1 = RX6) (hfin : (TX6 j).2.2.2 = false) (hty : tyX6 j = .long) (d : decode cc pc = .ok (.putfield index, 3))
    (kk : ∀ h' : gH, gRep Z ad (uJ P j v) h' → GJ Z Γ h' k n (pc + 3) lv st) : GJ Z Γ h k n pc lv (.long v :: .ref (ad 6 0 0) :: st) :=
  g_put X cl_X6 hlk hT hj.2 (by rw [hR.1 6 0 0 ⟨rfl, rfl⟩]; rfl) hfin (by rw [hty]; rfl) (by rw [hty]; rfl) (hR.putJ (v := v) hj rfl).2 d (kk _ (hR.putJ hj rfl).1)
theorem gp_putgl {g index : Nat} {v : Option (Nat × Nat)} {w : Value} (X : gOK Z Γ cc own nL ret) (hR : gRep Z ad P h) (hl : gLive P 1 g 0) (hw : w = va_rf (v.map (fun q => ad 2 q.1 q.2))) (hlk : Cond.fieldLink own index RX1 (TX1 9).2.1 (TX1 9).2.2.1 ∈ gT) (d : decode cc pc = .ok (.putfield index, 3))
    (kk : ∀ h' : gH, gRep Z ad (uGL P g v) h' → GJ Z Γ h' k n (pc + 3) lv st) : GJ Z Γ h k n pc lv (w :: .ref (ad 1 g 0) :: st) := by
  subst hw
  exact g_put X cl_X1 hlk rfl (by decide) (by rw [hR.1 1 g 0 hl]; rfl) rfl (by cases v <;> rfl) (by cases v <;> rfl) (hR.putGL (v := v) hl rfl).2 d (kk _ (hR.putGL hl rfl).1)
/-- an array's length -/
theorem gp_alen {kd r i t : Nat} {ty : FieldType} {x : vp_A} {v : Int32} (X : gOK Z Γ cc own nL ret) (hR : gRep Z ad P h) (hl : gLive P kd r i) (ht : gTy Z t ty) (hc : gCell Z.2.2.2.1 ad P kd r i = .inl (Z.2.2.2.1 t, x)) (hv : Int32.ofNat x.1 = v) (d : decode cc pc = .ok (.arraylength, 1)) (kk : GJ Z Γ h k n (pc + 1) lv (.int v :: st)) : GJ Z Γ h k n pc lv (.ref (ad kd r i) :: st) := g_alen X ht (by rw [hR.1 _ _ _ hl, hc]) hv d kk
/-- a reference out of an array: there, or null -/
theorem gp_aald {kd r i t m j : Nat} {C : String} {f : Nat → Option Nat} {x : Int32} (X : gOK Z Γ cc own nL ret) (hR : gRep Z ad P h) (hl : gLive P kd r i) (ht : gTy Z t (.object C)) (hc : gCell Z.2.2.2.1 ad P kd r i = .inl (Z.2.2.2.1 t, m, gRow f)) (hx : x = nI j) (hj : j < m) (hm : m < 2 ^ 31) (d : decode cc pc = .ok (.aaload, 1))
    (ks : ∀ a, f j = some a → GJ Z Γ h k n (pc + 1) lv (.ref a :: st)) (kn : f j = none → GJ Z Γ h k n (pc + 1) lv (.null :: st)) : GJ Z Γ h k n pc lv (.int x :: .ref (ad kd r i) :: st) := by
  subst hx
  refine g_aald X ht (by rw [hR.1 _ _ _ hl, hc]) (vp_in_nI hj hm) d ?_
  rw [nI_clamp (Nat.lt_trans hj hm)]
  cases hf : f j with
  | none => exact kn hf
  | some a => exact ks a hf
theorem gp_aald_if {kd r i t m j b : Nat} {C : String} {f : Nat → Nat} {x : Int32} (X : gOK Z Γ cc own nL ret) (hR : gRep Z ad P h) (hl : gLive P kd r i) (ht : gTy Z t (.object C)) (hc : gCell Z.2.2.2.1 ad P kd r i = .inl (Z.2.2.2.1 t, m, gRow (fun j => if j < b then some (f j) else none))) (hx : x = nI j) (hj : j < m) (hm : m < 2 ^ 31) (d : decode cc pc = .ok (.aaload, 1))
    (ks : j < b → GJ Z Γ h k n (pc + 1) lv (.ref (f j) :: st)) (kn : ¬ j < b → GJ Z Γ h k n (pc + 1) lv (.null :: st)) : GJ Z Γ h k n pc lv (.int x :: .ref (ad kd r i) :: st) := by
  refine gp_aald X hR hl ht hc hx hj hm d (fun a ha => ?_) (fun hn => ?_)
  · by_cases hb : j < b
    · rw [if_pos hb] at ha
      cases ha
      exact ks hb
    · rw [if_neg hb] at ha
      cases ha
  · by_cases hb : j < b
    · rw [if_pos hb] at hn
      cases hn
    · exact kn hb
theorem gp_aald_map {kd r i t m j : Nat} {C : String} {f : Nat → Option Nat} {x : Int32} (X : gOK Z Γ cc own nL ret) (hR : gRep Z ad P h) (hl : gLive P kd r i) (ht : gTy Z t (.object C)) (hc : gCell Z.2.2.2.1 ad P kd r i = .inl (Z.2.2.2.1 t, m, gRow (fun j => (f j).map (fun g => ad 1 g 0)))) (hx : x = nI j) (hj : j < m) (hm : m < 2 ^ 31) (d : decode cc pc = .ok (.aaload, 1))
    (ks : ∀ g, f j = some g → GJ Z Γ h k n (pc + 1) lv (.ref (ad 1 g 0) :: st)) (kn : f j = none → GJ Z Γ h k n (pc + 1) lv (.null :: st)) : GJ Z Γ h k n pc lv (.int x :: .ref (ad kd r i) :: st) := by
  refine gp_aald X hR hl ht hc hx hj hm d (fun a ha => ?_) (fun hn => ?_)
  · cases hf : f j with
    | none => rw [hf] at ha; cases ha
    | some g => rw [hf] at ha; cases ha; exact ks g hf
  · cases hf : f j with
    | none => exact kn hf
    | some g => rw [hf] at hn; cases hn
theorem gp_iald {kd r i t m j : Nat} {f : Nat → Int32} {x : Int32} (X : gOK Z Γ cc own nL ret) (hR : gRep Z ad P h) (hl : gLive P kd r i) (ht : gTy Z t .int) (hc : gCell Z.2.2.2.1 ad P kd r i = .inl (Z.2.2.2.1 t, m, .inl f)) (hx : x = nI j) (hj : j < m) (hm : m < 2 ^ 31) (d : decode cc pc = .ok (.iaload, 1))
    (kk : ∀ z : Int32, z = f j → GJ Z Γ h k n (pc + 1) lv (.int z :: st)) : GJ Z Γ h k n pc lv (.int x :: .ref (ad kd r i) :: st) := by
  subst hx
  refine g_iald X ht (by rw [hR.1 _ _ _ hl, hc]) (vp_in_nI hj hm) d ?_
  rw [nI_clamp (Nat.lt_trans hj hm)]
  exact kk
theorem gp_astPL {r i j : Nat} {v : Option Nat} {w : Value} {x : Int32} (X : gOK Z Γ cc own nL ret) (G : gG Z) (hR : gRep Z ad P h) (hl : gLive P 13 r i) (hw : w = va_rf (v.map (fun g => ad 1 g 0))) (hg : ∀ g, v = some g → gLive P 1 g 0) (hx : x = nI j) (hj : j < 60) (d : decode cc pc = .ok (.aastore, 1))
    (kk : ∀ h' : gH, gRep Z ad (uPL P r i j v) h' → GJ Z Γ h' k n (pc + 1) lv st) : GJ Z Γ h k n pc lv (w :: .int x :: .ref (ad 13 r i) :: st) := by
  subst hw
  subst hx
  have ha := hR.1 13 r i hl
  cases v with
  | none =>
    refine g_aastN X G.t2 ha (vp_in_nI hj (by decide)) d ?_
    rw [nI_clamp (Nat.lt_trans hj (by decide))]
    exact kk _ (hR.astPL (v := none) hl)
  | some g =>
    refine g_aast X cl_X1 G.t2 ha (hR.1 1 g 0 (hg g rfl)) (vp_in_nI hj (by decide)) d ?_
    rw [nI_clamp (Nat.lt_trans hj (by decide))]
    exact kk _ (hR.astPL (v := some g) hl)
theorem gp_astRD {r i j : Nat} {v : Option Nat} {w : Value} {x : Int32} (X : gOK Z Γ cc own nL ret) (G : gG Z) (hR : gRep Z ad P h) (hl : gLive P 12 r i) (hw : w = va_rf (v.map (fun g => ad 1 g 0))) (hg : ∀ g, v = some g → gLive P 1 g 0) (hx : x = nI j) (hj : j < 8) (d : decode cc pc = .ok (.aastore, 1))
    (kk : ∀ h' : gH, gRep Z ad (uRD P r i j v) h' → GJ Z Γ h' k n (pc + 1) lv st) : GJ Z Γ h k n pc lv (w :: .int x :: .ref (ad 12 r i) :: st) := by
  subst hw
  subst hx
  have ha := hR.1 12 r i hl
  cases v with
  | none =>
    refine g_aastN X G.t2 ha (vp_in_nI hj (by decide)) d ?_
    rw [nI_clamp (Nat.lt_trans hj (by decide))]
    exact kk _ (hR.astRD (v := none) hl)
  | some g =>
    refine g_aast X cl_X1 G.t2 ha (hR.1 1 g 0 (hg g rfl)) (vp_in_nI hj (by decide)) d ?_
    rw [nI_clamp (Nat.lt_trans hj (by decide))]
    exact kk _ (hR.astRD (v := some g) hl)
theorem gp_astC {j : Nat} {v x : Int32} (X : gOK Z Γ cc own nL ret) (G : gG Z) (hR : gRep Z ad P h) (hx : x = nI j) (hj : j < 8) (d : decode cc pc = .ok (.iastore, 1))
    (kk : ∀ h' : gH, gRep Z ad (uI P 8 0 0 j v) h' → GJ Z Γ h' k n (pc + 1) lv st) : GJ Z Γ h k n pc lv (.int v :: .int x :: .ref (ad 8 0 0) :: st) := by
  subst hx
  refine g_iast X G.t1 (hR.1 8 0 0 ⟨rfl, rfl⟩) (vp_in_nI hj (by decide)) d ?_
  rw [nI_clamp (Nat.lt_trans hj (by decide))]
  exact kk _ hR.astC
theorem gp_astX {j : Nat} {v x : Int32} (X : gOK Z Γ cc own nL ret) (G : gG Z) (hR : gRep Z ad P h) (hl : gLive P 14 0 0) (hx : x = nI j) (hj : j < 12) (d : decode cc pc = .ok (.iastore, 1))
    (kk : ∀ h' : gH, gRep Z ad (uI P 14 0 0 j v) h' → GJ Z Γ h' k n (pc + 1) lv st) : GJ Z Γ h k n pc lv (.int v :: .int x :: .ref (ad 14 0 0) :: st) := by
  subst hx
  refine g_iast X G.t1 (hR.1 14 0 0 hl) (vp_in_nI hj (by decide)) d ?_
  rw [nI_clamp (Nat.lt_trans hj (by decide))]
  exact kk _ (hR.astX hl)
/-! forms of contracts: a number, the heap as it was; nothing, another heap; a number and another heap; a reference; what is thrown, the heap as it was -/
def qI (h : gH) (F : Int32 → Prop) : Option Value → gH → Prop := fun v h' => ∃ x : Int32, v = some (.int x) ∧ F x ∧ h' = h
def qL (h : gH) (F : Int64 → Prop) : Option Value → gH → Prop := fun v h' => ∃ x : Int64, v = some (.long x) ∧ F x ∧ h' = h
def qM (F : gH → Prop) : Option Value → gH → Prop := fun v h' => v = none ∧ F h'
def qIM (F : Int32 → gH → Prop) : Option Value → gH → Prop := fun v h' => ∃ x : Int32, v = some (.int x) ∧ F x h'
def qR (h : gH) (F : Value → Prop) : Option Value → gH → Prop := fun v h' => ∃ w : Value, v = some w ∧ F w ∧ h' = h
def qRM (F : Value → gH → Prop) : Option Value → gH → Prop := fun v h' => ∃ w : Value, v = some w ∧ F w h'
def qN : String → gH → Prop := fun _ _ => False
def qT (h : gH) (F : String → Prop) : String → gH → Prop := fun E h' => F E ∧ h' = h
theorem gp_V {idx na n' d mc ms kd r i ci N D M S : Nat} {C : String} {T : u_T} {ty : Nat → FieldType} {fs : List Value} {y : MethodName} {bytes : ByteArray} {ret' : Option FieldType} {As rest : List Value} {Q : Option Value → gH → Prop} {QX : String → gH → Prop}
    (X : gOK Z Γ cc own nL ret) (RM : Γ.2.2.1 = gRm D M S) (L : gLV own idx C y bytes n' ret' na) (hM : gMet Z y bytes n' ret' d mc ms (.ref (ad kd r i) :: As) h Q QX) (K : gCls ci C T ty N) (hR : gRep Z ad P h) (hl : gLive P kd r i) (hc : gCell Z.2.2.2.1 ad P kd r i = .inr (ci, fs)) (hna : As.length = na) (hst : st = As.reverse ++ .ref (ad kd r i) :: rest) (hcat : (rest.map fun v => v.category).sum ≤ 8)
    (hD : d + 1 ≤ D ∧ 8 + (n' + 11) + 50 * d ≤ 50 * D) (hf : k + mc ≤ M ∧ n + ms ≤ S) (dd : decode cc pc = .ok (.invokevirtual idx, 3))
    (kk : ∀ (v : Option Value) (h' : gH), Q v h' → GJ Z Γ h' (k + mc) (n + ms) (pc + 3) lv (v.toList ++ rest)) (kx : ∀ (E : String) (h' : gH), QX E h' → GX Z Γ h' (k + mc) (n + ms) pc lv rest E) : GJ Z Γ h k n pc lv st :=
  g_callV X L hM K (by rw [hR.1 _ _ _ hl, hc]) hna hst hcat (by rw [RM]; exact hD) (by rw [RM]; exact hf) dd kk kx
theorem gp_S {idx na n' d mc ms D M S : Nat} {y : MethodName} {bytes : ByteArray} {ret' : Option FieldType} {As rest : List Value} {Q : Option Value → gH → Prop} {QX : String → gH → Prop}
    (X : gOK Z Γ cc own nL ret) (RM : Γ.2.2.1 = gRm D M S) (L : gLS own idx y bytes n' ret' na) (hM : gMet Z y bytes n' ret' d mc ms As h Q QX) (hna : As.length = na) (hst : st = As.reverse ++ rest) (hcat : (rest.map fun v => v.category).sum ≤ 8)
    (hD : d + 1 ≤ D ∧ 8 + (n' + 11) + 50 * d ≤ 50 * D) (hf : k + mc ≤ M ∧ n + ms ≤ S) (dd : decode cc pc = .ok (.invokestatic idx, 3))
    (kk : ∀ (v : Option Value) (h' : gH), Q v h' → GJ Z Γ h' (k + mc) (n + ms) (pc + 3) lv (v.toList ++ rest)) (kx : ∀ (E : String) (h' : gH), QX E h' → GX Z Γ h' (k + mc) (n + ms) pc lv rest E) : GJ Z Γ h k n pc lv st :=
  g_callS X L hM hna hst hcat (by rw [RM]; exact hD) (by rw [RM]; exact hf) dd kk kx
theorem gp_thr {ik is ic mc ms D M S : Nat} {cls text : String} {names : List String} {Q : Option Value → gH → Prop} {QX : String → gH → Prop} (X : gOK Z Γ cc own nL ret) (RM : Γ.2.2.1 = gRm D M S) (Nt : gNoTab Γ) (E : gEnd Z Γ mc ms Q QX) (TH : gThr own ik ic cls names) (hstr : (own, is, text) ∈ gStrs)
    (d0 : decode cc pc = .ok (.new ik, 3)) (d3 : decode cc (pc + 3) = .ok (.dup, 1)) (d4 : decode cc (pc + 4) = .ok (.ldc is, 2)) (d6 : decode cc (pc + 6) = .ok (.invokespecial ic, 3)) (d9 : decode cc (pc + 9) = .ok (.athrow, 1))
    (hR1 : names.length + 3 < D ∧ (st.map fun v => v.category).sum + (13 * (names.length + 1) + 43) ≤ 50 * D ∧ k + 1 ≤ M ∧ n + 6 ≤ S ∧ k + 1 ≤ mc ∧ n + 6 ≤ ms) (hq : QX cls h) : GJ Z Γ h k n pc lv st :=
  g_throw X Nt E TH hstr d0 d3 d4 d6 d9 (by rw [RM]; exact hR1.1) (by rw [RM]; exact hR1.2.1) (by rw [RM]; exact hR1.2.2.1) (by rw [RM]; exact hR1.2.2.2.1) hR1.2.2.2.2.1 hR1.2.2.2.2.2 hq
theorem gp_thrW {ik is ic mc ms D M S : Nat} {cls text : String} {names : List String} {Q : Option Value → gH → Prop} {QX : String → gH → Prop} (X : gOK Z Γ cc own nL ret) (RM : Γ.2.2.1 = gRm D M S) (Nt : gNoTab Γ) (E : gEnd Z Γ mc ms Q QX) (TH : gThr own ik ic cls names) (hstr : (own, is, text) ∈ gStrs)
    (d0 : decode cc pc = .ok (.new ik, 3)) (d3 : decode cc (pc + 3) = .ok (.dup, 1)) (d4 : decode cc (pc + 4) = .ok (.ldc_w is, 3)) (d7 : decode cc (pc + 7) = .ok (.invokespecial ic, 3)) (d10 : decode cc (pc + 10) = .ok (.athrow, 1))
    (hR1 : names.length + 3 < D ∧ (st.map fun v => v.category).sum + (13 * (names.length + 1) + 43) ≤ 50 * D ∧ k + 1 ≤ M ∧ n + 6 ≤ S ∧ k + 1 ≤ mc ∧ n + 6 ≤ ms) (hq : QX cls h) : GJ Z Γ h k n pc lv st :=
  g_throwW X Nt E TH hstr d0 d3 d4 d7 d10 (by rw [RM]; exact hR1.1) (by rw [RM]; exact hR1.2.1) (by rw [RM]; exact hR1.2.2.1) (by rw [RM]; exact hR1.2.2.2.1) hR1.2.2.2.2.1 hR1.2.2.2.2.2 hq
end GPROWS
end
section
/-! a block: pure words and contracts -/
section GBLOCK
def gChr (x : Int32) : Prop := narrow .char (.int x) = .int x ∧ fits .char (.int x) = true
def fStop (P : gP) (r b : Nat) : Bool := decide (pI P 0 r b 0 = 115) || decide (pI P 0 r b 0 = 98)
def fEB (P : gP) (r b : Nat) (e w : Int32) : Int32 := if fStop P r b then 3 else if pI P 0 r b 0 = 108 then 5 else e - (if 15 < w then 2 * ((pI P 0 r b 1 + 3) / 4) else (pI P 0 r b 1 + 3) / 4) - 2 * pI P 0 r b 2
def fFF (P : gP) (r b : Nat) (e : Int32) : Int32 := if fStop P r b ∨ pI P 0 r b 1 < 1 then 0 else pI P 0 r b 3 * e / pI P 0 r b 1 + 1
def fSens (P : gP) (r b : Nat) (p : Int32) : Int32 := if p = 0 then pI P 0 r b 4 else pI P 0 r b 5
def fSeen (P : gP) (r b : Nat) (p t : Int32) : Int32 := if fSens P r b p = 97 ∨ (fSens P r b p = 116 ∧ ¬ t = 0) then 1 else 0
theorem bz {x : Int32} {b : Bool} (h : x = if b then 1 else 0) : (x = 0 ↔ b = false) ∧ (¬ x = 0 ↔ b = true) := by
  subst h
  cases b <;> simp
set_option maxHeartbeats 4000000 in
set_option maxRecDepth 100000 in
theorem c_X0_isStop {Z : gEnv} {ad : gAd} {P : gP} {h : gH} (G : gG Z) (hR : gRep Z ad P h) {r b : Nat} (hl : gLive P 0 r b) : gMet Z yX0_isStop cX0_isStop 1 ((Option.some FieldType.boolean)) 1 0 0 [.ref (ad 0 r b)] h (qI h (fun x => x = if fStop P r b then 1 else 0)) (qN) := by
  refine g_enter (lv := [(0, .ref (ad 0 r b))]) G.2 (by decide +kernel) (Nat.le_of_ble_eq_true rfl) rfl (fun Γ X Nt E RM => ?_)
  refine g_aload_n X dX0_isStop_0 rfl ?_
  refine gp_geti (j := 0) X hR hl cl_X0 lk_X0_18 rfl (by decide) rfl rfl dX0_isStop_1 (fun x1 e1 => ?_)
  refine g_bipush (v := 115) X dX0_isStop_4 (by decide) ?_
  refine g_icmp_eq 18 X dX0_isStop_6 (by decide) (fun c6 => ?_) (fun c6 => ?_)
  · skip
    refine g_iconst (v := 1) X dX0_isStop_18 (by decide) ?_
    refine g_goto 23 X dX0_isStop_19 (by decide) ?_
    refine g_ireturn X E (by decide) dX0_isStop_23 (by decide) (by decide) ?_
    exact ⟨_, rfl, by simp_all [fStop], rfl⟩
  · skip
    refine g_aload_n X dX0_isStop_9 rfl ?_
    refine gp_geti (j := 0) X hR hl cl_X0 lk_X0_18 rfl (by decide) rfl rfl dX0_isStop_10 (fun x10 e10 => ?_)
    refine g_bipush (v := 98) X dX0_isStop_13 (by decide) ?_
    refine g_icmp_ne 22 X dX0_isStop_15 (by decide) (fun c15 => ?_) (fun c15 => ?_)
    · skip
      refine g_iconst (v := 0) X dX0_isStop_22 (by decide) ?_
      refine g_ireturn X E (by decide) dX0_isStop_23 (by decide) (by decide) ?_
      exact ⟨_, rfl, by simp_all [fStop], rfl⟩
    · skip
      refine g_iconst (v := 1) X dX0_isStop_18 (by decide) ?_
      refine g_goto 23 X dX0_isStop_19 (by decide) ?_
      refine g_ireturn X E (by decide) dX0_isStop_23 (by decide) (by decide) ?_
      exact ⟨_, rfl, by simp_all [fStop], rfl⟩
set_option maxHeartbeats 4000000 in
set_option maxRecDepth 100000 in
theorem c_X0_energyBehind {Z : gEnv} {ad : gAd} {P : gP} {h : gH} (G : gG Z) (hR : gRep Z ad P h) {r b : Nat} (hl : gLive P 0 r b) {e w : Int32} : gMet Z yX0_energyBehind cX0_energyBehind 4 ((Option.some FieldType.int)) 2 0 0 [.ref (ad 0 r b), .int e, .int w] h (qI h (fun x => x = fEB P r b e w)) (qN) := by
  refine g_enter (lv := [(0, .ref (ad 0 r b)), (1, .int e), (2, .int w)]) G.2 (by decide +kernel) (Nat.le_of_ble_eq_true rfl) rfl (fun Γ X Nt E RM => ?_)
  refine g_aload_n X dX0_energyBehind_0 rfl ?_
  refine gp_V X RM lm_X0_31 (c_X0_isStop G hR hl) cl_X0 hR hl rfl rfl rfl (Nat.le_of_ble_eq_true rfl) (by decide) (by decide) dX0_energyBehind_1 (fun v hz q => ?_) (fun _ _ q => q.elim)
  obtain ⟨x1, rfl, e1, rfl⟩ := q
  refine GJ.seq (st' := [.int x1]) rfl ?_
  refine g_if_eq 9 X dX0_energyBehind_4 (by decide) (fun c4 => ?_) (fun c4 => ?_)
  · skip
    refine g_aload_n X dX0_energyBehind_9 rfl ?_
    refine gp_geti (j := 0) X hR hl cl_X0 lk_X0_18 rfl (by decide) rfl rfl dX0_energyBehind_10 (fun x10 e10 => ?_)
    refine g_bipush (v := 108) X dX0_energyBehind_13 (by decide) ?_
    refine g_icmp_ne 20 X dX0_energyBehind_15 (by decide) (fun c15 => ?_) (fun c15 => ?_)
    · skip
      refine g_aload_n X dX0_energyBehind_20 rfl ?_
      refine gp_geti (j := 1) X hR hl cl_X0 lk_X0_21 rfl (by decide) rfl rfl dX0_energyBehind_21 (fun x21 e21 => ?_)
      refine g_iconst (v := 3) X dX0_energyBehind_24 (by decide) ?_
      refine g_iadd X dX0_energyBehind_25 (fun x25 e25 => ?_)
      refine g_iconst (v := 4) X dX0_energyBehind_26 (by decide) ?_
      refine g_idiv X dX0_energyBehind_27 (by decide) (fun x27 e27 => ?_)
      refine g_istore_n (lv' := [(3, .int x27), (0, .ref (ad 0 r b)), (1, .int e), (2, .int w)]) X dX0_energyBehind_28 (by decide) rfl ?_
      refine g_iload_n X dX0_energyBehind_29 rfl ?_
      refine g_iload_n X dX0_energyBehind_30 rfl ?_
      refine g_bipush (v := 15) X dX0_energyBehind_31 (by decide) ?_
      refine g_icmp_le 42 X dX0_energyBehind_33 (by decide) (fun c33 => ?_) (fun c33 => ?_)
      · skip
        refine g_iload_n X dX0_energyBehind_42 rfl ?_
        refine g_isub X dX0_energyBehind_43 (fun x43 e43 => ?_)
        refine g_iconst (v := 2) X dX0_energyBehind_44 (by decide) ?_
        refine g_aload_n X dX0_energyBehind_45 rfl ?_
        refine gp_geti (j := 2) X hR hl cl_X0 lk_X0_25 rfl (by decide) rfl rfl dX0_energyBehind_46 (fun x46 e46 => ?_)
        refine g_imul X dX0_energyBehind_49 (fun x49 e49 => ?_)
        refine g_isub X dX0_energyBehind_50 (fun x50 e50 => ?_)
        refine g_ireturn X E rfl dX0_energyBehind_51 (by decide) (by decide) ?_
        refine ⟨_, rfl, ?_, rfl⟩
        subst_vars
        simp_all [fEB, bz, -Int32.not_lt]
      · skip
        refine g_iconst (v := 2) X dX0_energyBehind_36 (by decide) ?_
        refine g_iload_n X dX0_energyBehind_37 rfl ?_
        refine g_imul X dX0_energyBehind_38 (fun x38 e38 => ?_)
        refine g_goto 43 X dX0_energyBehind_39 (by decide) ?_
        refine g_isub X dX0_energyBehind_43 (fun x43 e43 => ?_)
        refine g_iconst (v := 2) X dX0_energyBehind_44 (by decide) ?_
        refine g_aload_n X dX0_energyBehind_45 rfl ?_
        refine gp_geti (j := 2) X hR hl cl_X0 lk_X0_25 rfl (by decide) rfl rfl dX0_energyBehind_46 (fun x46 e46 => ?_)
        refine g_imul X dX0_energyBehind_49 (fun x49 e49 => ?_)
        refine g_isub X dX0_energyBehind_50 (fun x50 e50 => ?_)
        refine g_ireturn X E rfl dX0_energyBehind_51 (by decide) (by decide) ?_
        refine ⟨_, rfl, ?_, rfl⟩
        subst_vars
        simp_all [fEB, bz, -Int32.not_lt]
    · skip
      refine g_iconst (v := 5) X dX0_energyBehind_18 (by decide) ?_
      refine g_ireturn X E rfl dX0_energyBehind_19 (by decide) (by decide) ?_
      refine ⟨_, rfl, ?_, rfl⟩
      subst_vars
      simp_all [fEB, bz, -Int32.not_lt]
  · skip
    refine g_iconst (v := 3) X dX0_energyBehind_7 (by decide) ?_
    refine g_ireturn X E rfl dX0_energyBehind_8 (by decide) (by decide) ?_
    refine ⟨_, rfl, ?_, rfl⟩
    subst_vars
    simp_all [fEB, bz, -Int32.not_lt]
set_option maxHeartbeats 4000000 in
set_option maxRecDepth 100000 in
theorem c_X0_forceFor {Z : gEnv} {ad : gAd} {P : gP} {h : gH} (G : gG Z) (hR : gRep Z ad P h) {r b : Nat} (hl : gLive P 0 r b) {e : Int32} : gMet Z yX0_forceFor cX0_forceFor 2 ((Option.some FieldType.int)) 2 0 0 [.ref (ad 0 r b), .int e] h (qI h (fun x => x = fFF P r b e)) (qN) := by
  refine g_enter (lv := [(0, .ref (ad 0 r b)), (1, .int e)]) G.2 (by decide +kernel) (Nat.le_of_ble_eq_true rfl) rfl (fun Γ X Nt E RM => ?_)
  refine g_aload_n X dX0_forceFor_0 rfl ?_
  refine gp_V X RM lm_X0_31 (c_X0_isStop G hR hl) cl_X0 hR hl rfl rfl rfl (Nat.le_of_ble_eq_true rfl) (by decide) (by decide) dX0_forceFor_1 (fun v hz q => ?_) (fun _ _ q => q.elim)
  obtain ⟨x1, rfl, e1, rfl⟩ := q
  refine GJ.seq (st' := [.int x1]) rfl ?_
  refine g_if_ne 15 X dX0_forceFor_4 (by decide) (fun c4 => ?_) (fun c4 => ?_)
  · skip
    refine g_iconst (v := 0) X dX0_forceFor_15 (by decide) ?_
    refine g_goto 32 X dX0_forceFor_16 (by decide) ?_
    refine g_ireturn X E rfl dX0_forceFor_32 (by decide) (by decide) ?_
    refine ⟨_, rfl, ?_, rfl⟩
    subst_vars
    simp_all [fFF, bz, -Int32.not_lt]
  · skip
    refine g_aload_n X dX0_forceFor_7 rfl ?_
    refine gp_geti (j := 1) X hR hl cl_X0 lk_X0_21 rfl (by decide) rfl rfl dX0_forceFor_8 (fun x8 e8 => ?_)
    refine g_iconst (v := 1) X dX0_forceFor_11 (by decide) ?_
    refine g_icmp_ge 19 X dX0_forceFor_12 (by decide) (fun c12 => ?_) (fun c12 => ?_)
    · skip
      refine g_aload_n X dX0_forceFor_19 rfl ?_
      refine gp_geti (j := 3) X hR hl cl_X0 lk_X0_28 rfl (by decide) rfl rfl dX0_forceFor_20 (fun x20 e20 => ?_)
      refine g_iload_n X dX0_forceFor_23 rfl ?_
      refine g_imul X dX0_forceFor_24 (fun x24 e24 => ?_)
      refine g_aload_n X dX0_forceFor_25 rfl ?_
      refine gp_geti (j := 1) X hR hl cl_X0 lk_X0_21 rfl (by decide) rfl rfl dX0_forceFor_26 (fun x26 e26 => ?_)
      refine g_idiv X dX0_forceFor_29 (fun hz => c12 (by rw [e8, ← e26, hz]; decide)) (fun x29 e29 => ?_)
      refine g_iconst (v := 1) X dX0_forceFor_30 (by decide) ?_
      refine g_iadd X dX0_forceFor_31 (fun x31 e31 => ?_)
      refine g_ireturn X E rfl dX0_forceFor_32 (by decide) (by decide) ?_
      refine ⟨_, rfl, ?_, rfl⟩
      subst_vars
      simp_all [fFF, bz, -Int32.not_lt]
    · skip
      refine g_iconst (v := 0) X dX0_forceFor_15 (by decide) ?_
      refine g_goto 32 X dX0_forceFor_16 (by decide) ?_
      refine g_ireturn X E rfl dX0_forceFor_32 (by decide) (by decide) ?_
      refine ⟨_, rfl, ?_, rfl⟩
      subst_vars
      simp_all [fFF, bz, -Int32.not_lt]
set_option maxHeartbeats 4000000 in
set_option maxRecDepth 100000 in
theorem c_X0_sensor {Z : gEnv} {ad : gAd} {P : gP} {h : gH} (G : gG Z) (hR : gRep Z ad P h) {r b : Nat} (hl : gLive P 0 r b) (hc : gChr (pI P 0 r b 4) ∧ gChr (pI P 0 r b 5)) {p : Int32} : gMet Z yX0_sensor cX0_sensor 2 ((Option.some FieldType.char)) 1 0 0 [.ref (ad 0 r b), .int p] h (qI h (fun x => x = fSens P r b p)) (qN) := by
  refine g_enter (lv := [(0, .ref (ad 0 r b)), (1, .int p)]) G.2 (by decide +kernel) (Nat.le_of_ble_eq_true rfl) rfl (fun Γ X Nt E RM => ?_)
  refine g_iload_n X dX0_sensor_0 rfl ?_
  refine g_if_ne 11 X dX0_sensor_1 (by decide) (fun c1 => ?_) (fun c1 => ?_)
  · skip
    refine g_aload_n X dX0_sensor_11 rfl ?_
    refine gp_geti (j := 5) X hR hl cl_X0 lk_X0_15 rfl (by decide) rfl rfl dX0_sensor_12 (fun x12 e12 => ?_)
    refine g_ireturn X E (by rw [e12]; exact hc.2.1) dX0_sensor_15 (by decide) (by decide) ?_
    exact ⟨_, rfl, by simp_all [fSens], rfl⟩
  · skip
    refine g_aload_n X dX0_sensor_4 rfl ?_
    refine gp_geti (j := 4) X hR hl cl_X0 lk_X0_9 rfl (by decide) rfl rfl dX0_sensor_5 (fun x5 e5 => ?_)
    refine g_goto 15 X dX0_sensor_8 (by decide) ?_
    refine g_ireturn X E (by rw [e5]; exact hc.1.1) dX0_sensor_15 (by decide) (by decide) ?_
    exact ⟨_, rfl, by simp_all [fSens], rfl⟩
set_option maxHeartbeats 4000000 in
set_option maxRecDepth 100000 in
theorem c_X0_tellSensor {Z : gEnv} {ad : gAd} {P : gP} {h : gH} (G : gG Z) (hR : gRep Z ad P h) {r b : Nat} (hl : gLive P 0 r b) {p w : Int32} (hw : gChr w) : gMet Z yX0_tellSensor cX0_tellSensor 3 ((Option.none : Option FieldType)) 1 0 0 [.ref (ad 0 r b), .int p, .int w] h (qM (fun h2 => ∃ P2, gRep Z ad P2 h2 ∧ P2 = if p = 0 then uI P 0 r b 4 w else uI P 0 r b 5 w)) (qN) := by
  refine g_enter (lv := [(0, .ref (ad 0 r b)), (1, .int p), (2, .int w)]) G.2 (by decide +kernel) (Nat.le_of_ble_eq_true rfl) rfl (fun Γ X Nt E RM => ?_)
  refine g_iload_n X dX0_tellSensor_0 rfl ?_
  refine g_if_ne 12 X dX0_tellSensor_1 (by decide) (fun c1 => ?_) (fun c1 => ?_)
  · skip
    refine g_aload_n X dX0_tellSensor_12 rfl ?_
    refine g_iload_n X dX0_tellSensor_13 rfl ?_
    refine gp_puti (j := 5) X hR hl cl_X0 lk_X0_15 rfl (by decide) rfl (by decide) rfl hw.1 hw.2 dX0_tellSensor_14 (fun h hR => ?_)
    refine g_return X E dX0_tellSensor_17 (by decide) (by decide) ?_
    exact ⟨rfl, _, hR, by simp_all⟩
  · skip
    refine g_aload_n X dX0_tellSensor_4 rfl ?_
    refine g_iload_n X dX0_tellSensor_5 rfl ?_
    refine gp_puti (j := 4) X hR hl cl_X0 lk_X0_9 rfl (by decide) rfl (by decide) rfl hw.1 hw.2 dX0_tellSensor_6 (fun h hR => ?_)
    refine g_goto 17 X dX0_tellSensor_9 (by decide) ?_
    refine g_return X E dX0_tellSensor_17 (by decide) (by decide) ?_
    exact ⟨rfl, _, hR, by simp_all⟩
set_option maxHeartbeats 4000000 in
set_option maxRecDepth 100000 in
theorem c_X0_isSeenBy {Z : gEnv} {ad : gAd} {P : gP} {h : gH} (G : gG Z) (hR : gRep Z ad P h) {r b : Nat} (hl : gLive P 0 r b) (hc : gChr (pI P 0 r b 4) ∧ gChr (pI P 0 r b 5)) {p t : Int32} : gMet Z yX0_isSeenBy cX0_isSeenBy 4 ((Option.some FieldType.boolean)) 2 0 0 [.ref (ad 0 r b), .int p, .int t] h (qI h (fun x => x = fSeen P r b p t)) (qN) := by
  refine g_enter (lv := [(0, .ref (ad 0 r b)), (1, .int p), (2, .int t)]) G.2 (by decide +kernel) (Nat.le_of_ble_eq_true rfl) rfl (fun Γ X Nt E RM => ?_)
  refine g_aload_n X dX0_isSeenBy_0 rfl ?_
  refine g_iload_n X dX0_isSeenBy_1 rfl ?_
  refine gp_V X RM lm_X0_35 (c_X0_sensor G hR hl hc) cl_X0 hR hl rfl rfl rfl (Nat.le_of_ble_eq_true rfl) (by decide) (by decide) dX0_isSeenBy_2 (fun v hz q => ?_) (fun _ _ q => q.elim)
  obtain ⟨x2, rfl, e2, rfl⟩ := q
  refine GJ.seq (st' := [.int x2]) rfl ?_
  refine g_istore_n (lv' := [(3, .int x2), (0, .ref (ad 0 r b)), (1, .int p), (2, .int t)]) X dX0_isSeenBy_5 (by decide) rfl ?_
  refine g_iload_n X dX0_isSeenBy_6 rfl ?_
  refine g_bipush (v := 97) X dX0_isSeenBy_7 (by decide) ?_
  refine g_icmp_eq 22 X dX0_isSeenBy_9 (by decide) (fun c9 => ?_) (fun c9 => ?_)
  · skip
    refine g_iconst (v := 1) X dX0_isSeenBy_22 (by decide) ?_
    refine g_goto 27 X dX0_isSeenBy_23 (by decide) ?_
    refine g_ireturn X E (by decide) dX0_isSeenBy_27 (by decide) (by decide) ?_
    exact ⟨_, rfl, by simp_all [fSeen], rfl⟩
  · skip
    refine g_iload_n X dX0_isSeenBy_12 rfl ?_
    refine g_bipush (v := 116) X dX0_isSeenBy_13 (by decide) ?_
    refine g_icmp_ne 26 X dX0_isSeenBy_15 (by decide) (fun c15 => ?_) (fun c15 => ?_)
    · skip
      refine g_iconst (v := 0) X dX0_isSeenBy_26 (by decide) ?_
      refine g_ireturn X E (by decide) dX0_isSeenBy_27 (by decide) (by decide) ?_
      exact ⟨_, rfl, by simp_all [fSeen], rfl⟩
    · skip
      refine g_iload_n X dX0_isSeenBy_18 rfl ?_
      refine g_if_eq 26 X dX0_isSeenBy_19 (by decide) (fun c19 => ?_) (fun c19 => ?_)
      · skip
        refine g_iconst (v := 0) X dX0_isSeenBy_26 (by decide) ?_
        refine g_ireturn X E (by decide) dX0_isSeenBy_27 (by decide) (by decide) ?_
        exact ⟨_, rfl, by simp_all [fSeen], rfl⟩
      · skip
        refine g_iconst (v := 1) X dX0_isSeenBy_22 (by decide) ?_
        refine g_goto 27 X dX0_isSeenBy_23 (by decide) ?_
        refine g_ireturn X E (by decide) dX0_isSeenBy_27 (by decide) (by decide) ?_
        exact ⟨_, rfl, by simp_all [fSeen], rfl⟩
end GBLOCK
end
section
/-! a ring: pure words and contracts -/
section GRING
theorem g_ix {x M : Int32} {N : Nat} (h0 : ¬ x < 0) (h : x < M) (hM : M.toInt = N) : ∃ j : Nat, j < N ∧ x = nI j := by
  obtain ⟨j, hj, hx⟩ := nI_of h0
  refine ⟨j, ?_, hx⟩
  have h1 := Int32.lt_iff_toInt_lt.mp h
  rw [hx, nI_toInt hj, hM] at h1
  omega
theorem g_n1 {x : Int32} (h : x < 0) {i N : Nat} (hi : i < N) (hN : N ≤ 60) : x ≠ nI i := fun e => nI_pos (n := i) (by omega) (by rw [← e]; exact h)
theorem g_n2 {x M : Int32} {K : Nat} (h : ¬ x < M) (hM : M = nI K) (hK : K ≤ 60) {i N : Nat} (hi : i < N) (hN : N ≤ K) : x ≠ nI i := fun e => h (by rw [e, hM]; exact nI_lt (by omega) (by omega))
theorem g_n3 {x : Int32} {j K : Nat} (hx : x = nI j) (hj : j < K) (hK : K ≤ 60) {i N : Nat} (h : ¬ j < N) (hi : i < N) (hN : N ≤ K) : x ≠ nI i := fun e => by
  have h1 := (nI_eq (a := j) (b := i) (by omega) (by omega)).mp (hx.symm.trans e)
  omega
def fNx (nb j : Nat) : Nat := if j + 1 < nb then j + 1 else 0
theorem fNx_lt {nb j : Nat} (h : j < nb) : fNx nb j < nb := by unfold fNx; split <;> omega
def fNS (P : gP) (r : Nat) : Nat → Nat → Nat
  | 0, a => a
  | m + 1, a => if fStop P r a then a else fNS P r m (fNx (pnB P r) a)
def fPath (P : gP) (r : Nat) : Nat → Nat → Int32 → Int32
  | 0, _, p => p
  | m + 1, a, p => if fStop P r (fNx (pnB P r) a) then p ||| (1 <<< (nI (fNx (pnB P r) a) &&& 31)) else fPath P r m (fNx (pnB P r) a) (p ||| (1 <<< (nI (fNx (pnB P r) a) &&& 31)))
def fBad (P : gP) (r : Nat) (w : Int32) : Nat → Nat → Int32 → Int32 → Bool
  | 0, _, _, _ => false
  | m + 1, a, e, s => if fStop P r a then false else if 6 < fFF P r a e ∨ ¬ (if 4 < fFF P r a e then s + 1 else 0) < 3 ∨ fEB P r a e w < 0 then true else fBad P r w m (fNx (pnB P r) a) (fEB P r a e w) (if 4 < fFF P r a e then s + 1 else 0)

set_option maxHeartbeats 4000000 in
set_option maxRecDepth 100000 in
theorem c_X4_blockOrNull {Z : gEnv} {ad : gAd} {P : gP} {h : gH} (G : gG Z) (hR : gRep Z ad P h) {r : Nat} (hl : gLive P 4 r 0) (hB : pnB P r ≤ 12) {x : Int32} : gMet Z yX4_blockOrNull cX4_blockOrNull 2 ((Option.some (FieldType.object "Coasterland$Block"))) 1 0 0 [.ref (ad 4 r 0), .int x] h (qR h (fun w => (∃ j, x = nI j ∧ j < pnB P r ∧ w = .ref (ad 0 r j)) ∨ (w = .null ∧ ∀ i, i < pnB P r → x ≠ nI i))) (qN) := by
  refine g_enter (lv := [(0, .ref (ad 4 r 0)), (1, .int x)]) G.2 (by decide +kernel) (Nat.le_of_ble_eq_true rfl) rfl (fun Γ X Nt E RM => ?_)
  refine g_iload_n X dX4_blockOrNull_0 rfl ?_
  refine g_if_lt 22 X dX4_blockOrNull_1 (by decide) (fun c1 => ?_) (fun c1 => ?_)
  · skip
    refine g_null X dX4_blockOrNull_22 ?_
    refine g_areturn X E (Or.inl rfl) dX4_blockOrNull_23 (by decide) (by decide) ?_
    exact ⟨_, rfl, Or.inr ⟨rfl, fun i hi => by first | exact g_n3 hxj hj (by decide) h18 hi hB | exact g_n2 c10 rfl (by decide) hi hB | exact g_n1 c1 hi (Nat.le_trans hB (by decide))⟩, rfl⟩
  · skip
    refine g_iload_n X dX4_blockOrNull_4 rfl ?_
    refine g_aload_n X dX4_blockOrNull_5 rfl ?_
    refine gp_get (j := 0) (v := .ref (ad 10 r 0)) X hR hl cl_X4 lk_X4_11 rfl (by decide) rfl rfl dX4_blockOrNull_6 ?_
    refine gp_alen (v := 12) X hR hl G.t3 rfl rfl dX4_blockOrNull_9 ?_
    refine g_icmp_ge 22 X dX4_blockOrNull_10 (by decide) (fun c10 => ?_) (fun c10 => ?_)
    · skip
      refine g_null X dX4_blockOrNull_22 ?_
      refine g_areturn X E (Or.inl rfl) dX4_blockOrNull_23 (by decide) (by decide) ?_
      exact ⟨_, rfl, Or.inr ⟨rfl, fun i hi => by first | exact g_n3 hxj hj (by decide) h18 hi hB | exact g_n2 c10 rfl (by decide) hi hB | exact g_n1 c1 hi (Nat.le_trans hB (by decide))⟩, rfl⟩
    · skip
      obtain ⟨j, hj, hxj⟩ := g_ix c1 c10 (N := 12) (by decide)
      refine g_aload_n X dX4_blockOrNull_13 rfl ?_
      refine gp_get (j := 0) (v := .ref (ad 10 r 0)) X hR hl cl_X4 lk_X4_11 rfl (by decide) rfl rfl dX4_blockOrNull_14 ?_
      refine g_iload_n X dX4_blockOrNull_17 rfl ?_
      refine gp_aald_if (j := j) X hR hl G.t3 rfl hxj hj (by decide) dX4_blockOrNull_18 (fun h18 => ?_) (fun h18 => ?_)
      · skip
        have hl18 : gLive P 0 r j := ⟨(hl).1, h18⟩
        refine g_goto 23 X dX4_blockOrNull_19 (by decide) ?_
        refine g_areturn X E (Or.inr ⟨_, rfl⟩) dX4_blockOrNull_23 (by decide) (by decide) ?_
        exact ⟨_, rfl, Or.inl ⟨j, hxj, h18, rfl⟩, rfl⟩
      · skip
        refine g_goto 23 X dX4_blockOrNull_19 (by decide) ?_
        refine g_areturn X E (Or.inl rfl) dX4_blockOrNull_23 (by decide) (by decide) ?_
        exact ⟨_, rfl, Or.inr ⟨rfl, fun i hi => by first | exact g_n3 hxj hj (by decide) h18 hi hB | exact g_n2 c10 rfl (by decide) hi hB | exact g_n1 c1 hi (Nat.le_trans hB (by decide))⟩, rfl⟩
theorem g_next {x : Int32} {j nb : Nat} (hx : x = nI j) (hj : j < nb) (hb : nb ≤ 12) : (x + 1 < nI nb ↔ j + 1 < nb) ∧ x + 1 = nI (j + 1) := by
  subst hx
  rw [nI_1]
  exact ⟨nI_ltI (by omega) (by omega), rfl⟩
set_option maxHeartbeats 4000000 in
set_option maxRecDepth 100000 in
theorem c_X4_next {Z : gEnv} {ad : gAd} {P : gP} {h : gH} (G : gG Z) (hR : gRep Z ad P h) {r : Nat} (hl : gLive P 4 r 0) (hB : pnB P r ≤ 12) {x : Int32} {j : Nat} (hx : x = nI j) (hj : j < pnB P r) : gMet Z yX4_next cX4_next 2 ((Option.some FieldType.int)) 1 0 0 [.ref (ad 4 r 0), .int x] h (qI h (fun y => y = nI (fNx (pnB P r) j))) (qN) := by
  refine g_enter (lv := [(0, .ref (ad 4 r 0)), (1, .int x)]) G.2 (by decide +kernel) (Nat.le_of_ble_eq_true rfl) rfl (fun Γ X Nt E RM => ?_)
  refine g_iload_n X dX4_next_0 rfl ?_
  refine g_iconst (v := 1) X dX4_next_1 (by decide) ?_
  refine g_iadd X dX4_next_2 (fun x2 e2 => ?_)
  refine g_aload_n X dX4_next_3 rfl ?_
  refine gp_geti (j := 1) X hR hl cl_X4 lk_X4_17 rfl (by decide) rfl rfl dX4_next_4 (fun x4 e4 => ?_)
  refine g_icmp_ge 16 X dX4_next_7 (by decide) (fun c7 => ?_) (fun c7 => ?_)
  · skip
    refine g_iconst (v := 0) X dX4_next_16 (by decide) ?_
    refine g_ireturn X E rfl dX4_next_17 (by decide) (by decide) ?_
    have hn := g_next hx hj hB
    rw [e2, e4] at c7
    exact ⟨_, rfl, by rw [fNx, if_neg (fun q => c7 (hn.1.mpr q))]; rfl, rfl⟩
  · skip
    refine g_iload_n X dX4_next_10 rfl ?_
    refine g_iconst (v := 1) X dX4_next_11 (by decide) ?_
    refine g_iadd X dX4_next_12 (fun x12 e12 => ?_)
    refine g_goto 17 X dX4_next_13 (by decide) ?_
    refine g_ireturn X E rfl dX4_next_17 (by decide) (by decide) ?_
    have hn := g_next hx hj hB
    rw [e2, e4] at c7
    exact ⟨_, rfl, by rw [e12, hn.2, fNx, if_pos (hn.1.mp c7)], rfl⟩
set_option maxHeartbeats 4000000 in
set_option maxRecDepth 100000 in
theorem c_X4_isStop {Z : gEnv} {ad : gAd} {P : gP} {h : gH} (G : gG Z) (hR : gRep Z ad P h) {r : Nat} (hl : gLive P 4 r 0) (hB : pnB P r ≤ 12) {x : Int32} {j : Nat} (hx : x = nI j) (hj : j < pnB P r) : gMet Z yX4_isStop cX4_isStop 3 ((Option.some FieldType.boolean)) 2 0 0 [.ref (ad 4 r 0), .int x] h (qI h (fun y => y = if fStop P r j then 1 else 0)) (qN) := by
  refine g_enter (lv := [(0, .ref (ad 4 r 0)), (1, .int x)]) G.2 (by decide +kernel) (Nat.le_of_ble_eq_true rfl) rfl (fun Γ X Nt E RM => ?_)
  refine g_aload_n X dX4_isStop_0 rfl ?_
  refine g_iload_n X dX4_isStop_1 rfl ?_
  refine gp_V X RM lm_X4_28 (c_X4_blockOrNull G hR hl hB) cl_X4 hR hl rfl rfl rfl (Nat.le_of_ble_eq_true rfl) (by decide) (by decide) dX4_isStop_2 (fun v hz q => ?_) (fun _ _ q => q.elim)
  obtain ⟨w2, rfl, e2, rfl⟩ := q
  rcases e2 with ⟨j2, f2, k2, rfl⟩ | ⟨rfl, f2⟩
  · skip
    have hl2 : gLive P 0 r j2 := ⟨(hl).1, k2⟩
    refine GJ.seq (st' := [.ref (ad 0 r j2)]) rfl ?_
    refine g_astore_n (lv' := [(2, .ref (ad 0 r j2)), (0, .ref (ad 4 r 0)), (1, .int x)]) X dX4_isStop_5 (by decide) rfl ?_
    refine g_aload_n X dX4_isStop_6 rfl ?_
    refine g_ifnull X dX4_isStop_7 ?_
    refine g_aload_n X dX4_isStop_10 rfl ?_
    refine gp_V X RM lm_X4_32 (c_X0_isStop G hR hl2) cl_X0 hR hl2 rfl rfl rfl (Nat.le_of_ble_eq_true rfl) (by decide) (by decide) dX4_isStop_11 (fun v hz q => ?_) (fun _ _ q => q.elim)
    obtain ⟨x11, rfl, e11, rfl⟩ := q
    refine GJ.seq (st' := [.int x11]) rfl ?_
    refine g_if_eq 21 X dX4_isStop_14 (by decide) (fun c14 => ?_) (fun c14 => ?_)
    · skip
      refine g_iconst (v := 0) X dX4_isStop_21 (by decide) ?_
      refine g_ireturn X E (by decide) dX4_isStop_22 (by decide) (by decide) ?_
      first | exact absurd hx (f2 j hj) | (have hjj : j2 = j := (nI_eq (by omega) (by omega)).mp (f2.symm.trans hx); subst hjj; exact ⟨_, rfl, by simp_all [bz], rfl⟩)
    · skip
      refine g_iconst (v := 1) X dX4_isStop_17 (by decide) ?_
      refine g_goto 22 X dX4_isStop_18 (by decide) ?_
      refine g_ireturn X E (by decide) dX4_isStop_22 (by decide) (by decide) ?_
      first | exact absurd hx (f2 j hj) | (have hjj : j2 = j := (nI_eq (by omega) (by omega)).mp (f2.symm.trans hx); subst hjj; exact ⟨_, rfl, by simp_all [bz], rfl⟩)
  · skip
    refine GJ.seq (st' := [.null]) rfl ?_
    refine g_astore_nN (lv' := [(2, .null), (0, .ref (ad 4 r 0)), (1, .int x)]) X dX4_isStop_5 (by decide) rfl ?_
    refine g_aload_nN X dX4_isStop_6 rfl ?_
    refine g_ifnullN 21 X dX4_isStop_7 (by decide) ?_
    refine g_iconst (v := 0) X dX4_isStop_21 (by decide) ?_
    refine g_ireturn X E (by decide) dX4_isStop_22 (by decide) (by decide) ?_
    first | exact absurd hx (f2 j hj) | (have hjj : j2 = j := (nI_eq (by omega) (by omega)).mp (f2.symm.trans hx); subst hjj; exact ⟨_, rfl, by simp_all [bz], rfl⟩)
set_option maxHeartbeats 4000000 in
set_option maxRecDepth 100000 in
theorem c_X4_nextStop {Z : gEnv} {ad : gAd} {P : gP} {h : gH} (G : gG Z) (hR : gRep Z ad P h) {r : Nat} (hl : gLive P 4 r 0) (hB : pnB P r ≤ 12) {x : Int32} {j : Nat} (hx : x = nI j) (hj : j < pnB P r) : gMet Z yX4_nextStop cX4_nextStop 4 ((Option.some FieldType.int)) 3 0 0 [.ref (ad 4 r 0), .int x] h (qI h (fun y => y = nI (fNS P r (pnB P r) (fNx (pnB P r) j)))) (qN) := by
  refine g_enter (lv := [(0, .ref (ad 4 r 0)), (1, .int x)]) G.2 (by decide +kernel) (Nat.le_of_ble_eq_true rfl) rfl (fun Γ X Nt E RM => ?_)
  have L : ∀ (m : Nat) (k a : Nat) (x2 x3 : Int32) (hm : m + k = pnB P r) (ha : a < pnB P r) (hf : fNS P r m a = fNS P r (pnB P r) (fNx (pnB P r) j)) (h2 : x2 = nI a) (h3 : x3 = nI k), GJ Z Γ h 0 0 8 [(3, .int x3), (2, .int x2), (1, .int x), (0, .ref (ad 4 r 0))] [] := by
    intro m
    induction m with
    | zero =>
      intro k a x2 x3 hm ha hf h2 h3
      refine g_iload_n X dX4_nextStop_8 rfl ?_
      refine g_aload_n X dX4_nextStop_9 rfl ?_
      refine gp_geti (j := 1) X hR hl cl_X4 lk_X4_17 rfl (by decide) rfl rfl dX4_nextStop_10 (fun x10 e10 => ?_)
      refine g_icmp_ge 36 X dX4_nextStop_13 (by decide) (fun c13 => ?_) (fun c13 => ?_)
      · skip
        refine g_iload_n X dX4_nextStop_36 rfl ?_
        refine g_ireturn X E rfl dX4_nextStop_37 (by decide) (by decide) ?_
        refine ⟨_, rfl, ?_, rfl⟩
        rw [h2, ← hf, fNS]
      · skip
        exact absurd c13 (by rw [h3, e10, ← hm, Nat.zero_add]; exact nI_nlt (Nat.le_refl _) (by omega))
    | succ m ih =>
      intro k a x2 x3 hm ha hf h2 h3
      refine g_iload_n X dX4_nextStop_8 rfl ?_
      refine g_aload_n X dX4_nextStop_9 rfl ?_
      refine gp_geti (j := 1) X hR hl cl_X4 lk_X4_17 rfl (by decide) rfl rfl dX4_nextStop_10 (fun x10 e10 => ?_)
      refine g_icmp_ge 36 X dX4_nextStop_13 (by decide) (fun c13 => ?_) (fun c13 => ?_)
      · skip
        exact absurd (by rw [h3, e10]; exact nI_lt (by omega) (by omega)) c13
      · skip
        refine g_aload_n X dX4_nextStop_16 rfl ?_
        refine g_iload_n X dX4_nextStop_17 rfl ?_
        refine gp_V X RM lm_X4_40 (c_X4_isStop G hR hl hB h2 ha) cl_X4 hR hl rfl rfl rfl (Nat.le_of_ble_eq_true rfl) (by decide) (by decide) dX4_nextStop_18 (fun v hz q => ?_) (fun _ _ q => q.elim)
        obtain ⟨x18, rfl, e18, rfl⟩ := q
        refine GJ.seq (st' := [.int x18]) rfl ?_
        refine g_if_ne 36 X dX4_nextStop_21 (by decide) (fun c21 => ?_) (fun c21 => ?_)
        · skip
          refine g_iload_n X dX4_nextStop_36 rfl ?_
          refine g_ireturn X E rfl dX4_nextStop_37 (by decide) (by decide) ?_
          refine ⟨_, rfl, ?_, rfl⟩
          rw [h2, ← hf, fNS, if_pos ((bz e18).2.mp c21)]
        · skip
          refine g_aload_n X dX4_nextStop_24 rfl ?_
          refine g_iload_n X dX4_nextStop_25 rfl ?_
          refine gp_V X RM lm_X4_36 (c_X4_next G hR hl hB h2 ha) cl_X4 hR hl rfl rfl rfl (Nat.le_of_ble_eq_true rfl) (by decide) (by decide) dX4_nextStop_26 (fun v hz q => ?_) (fun _ _ q => q.elim)
          obtain ⟨x26, rfl, e26, rfl⟩ := q
          refine GJ.seq (st' := [.int x26]) rfl ?_
          refine g_istore_n (lv' := [(2, .int x26), (3, .int x3), (1, .int x), (0, .ref (ad 4 r 0))]) X dX4_nextStop_29 (by decide) rfl ?_
          refine gp_iinc 1 X dX4_nextStop_30 rfl (by decide) (fun x30 e30 => ?_)
          refine GJ.leq (lv' := [(3, .int x30), (2, .int x26), (1, .int x), (0, .ref (ad 4 r 0))]) rfl ?_
          refine g_goto 8 X dX4_nextStop_33 (by decide) ?_
          exact ih (k + 1) (fNx (pnB P r) a) x26 x30 (by omega) (fNx_lt ha) (by rw [← hf, fNS, if_neg (by rw [(bz e18).1.mp c21]; decide)]) e26 (by rw [e30, h3]; exact nI_1 k)
  refine g_aload_n X dX4_nextStop_0 rfl ?_
  refine g_iload_n X dX4_nextStop_1 rfl ?_
  refine gp_V X RM lm_X4_36 (c_X4_next G hR hl hB hx hj) cl_X4 hR hl rfl rfl rfl (Nat.le_of_ble_eq_true rfl) (by decide) (by decide) dX4_nextStop_2 (fun v hz q => ?_) (fun _ _ q => q.elim)
  obtain ⟨x2, rfl, e2, rfl⟩ := q
  refine GJ.seq (st' := [.int x2]) rfl ?_
  refine g_istore_n (lv' := [(2, .int x2), (0, .ref (ad 4 r 0)), (1, .int x)]) X dX4_nextStop_5 (by decide) rfl ?_
  refine g_iconst (v := 0) X dX4_nextStop_6 (by decide) ?_
  refine g_istore_n (lv' := [(3, .int 0), (2, .int x2), (0, .ref (ad 4 r 0)), (1, .int x)]) X dX4_nextStop_7 (by decide) rfl ?_
  refine GJ.pick [0, 1, 3, 2] rfl ?_
  exact L (pnB P r) 0 (fNx (pnB P r) j) x2 0 (by omega) (fNx_lt hj) rfl e2 rfl
set_option maxHeartbeats 4000000 in
set_option maxRecDepth 100000 in
theorem c_X4_pathBehind {Z : gEnv} {ad : gAd} {P : gP} {h : gH} (G : gG Z) (hR : gRep Z ad P h) {r : Nat} (hl : gLive P 4 r 0) (hB : pnB P r ≤ 12) {x : Int32} {j : Nat} (hx : x = nI j) (hj : j < pnB P r) : gMet Z yX4_pathBehind cX4_pathBehind 5 ((Option.some FieldType.int)) 3 0 0 [.ref (ad 4 r 0), .int x] h (qI h (fun y => y = fPath P r (pnB P r) j 0)) (qN) := by
  refine g_enter (lv := [(0, .ref (ad 4 r 0)), (1, .int x)]) G.2 (by decide +kernel) (Nat.le_of_ble_eq_true rfl) rfl (fun Γ X Nt E RM => ?_)
  have L : ∀ (m : Nat) (k a : Nat) (x2 x3 x4 : Int32) (hm : m + k = pnB P r) (ha : a < pnB P r) (hf : fPath P r m a x2 = fPath P r (pnB P r) j 0) (h3 : x3 = nI a) (h4 : x4 = nI k), GJ Z Γ h 0 0 7 [(4, .int x4), (3, .int x3), (2, .int x2), (1, .int x), (0, .ref (ad 4 r 0))] [] := by
    intro m
    induction m with
    | zero =>
      intro k a x2 x3 x4 hm ha hf h3 h4
      refine g_iload X dX4_pathBehind_7 rfl ?_
      refine g_aload_n X dX4_pathBehind_9 rfl ?_
      refine gp_geti (j := 1) X hR hl cl_X4 lk_X4_17 rfl (by decide) rfl rfl dX4_pathBehind_10 (fun x10 e10 => ?_)
      refine g_icmp_ge 44 X dX4_pathBehind_13 (by decide) (fun c13 => ?_) (fun c13 => ?_)
      · skip
        refine g_iload_n X dX4_pathBehind_44 rfl ?_
        refine g_ireturn X E rfl dX4_pathBehind_45 (by decide) (by decide) ?_
        refine ⟨_, rfl, ?_, rfl⟩
        rw [← hf, fPath]
      · skip
        exact absurd c13 (by rw [h4, e10, ← hm, Nat.zero_add]; exact nI_nlt (Nat.le_refl _) (by omega))
    | succ m ih =>
      intro k a x2 x3 x4 hm ha hf h3 h4
      refine g_iload X dX4_pathBehind_7 rfl ?_
      refine g_aload_n X dX4_pathBehind_9 rfl ?_
      refine gp_geti (j := 1) X hR hl cl_X4 lk_X4_17 rfl (by decide) rfl rfl dX4_pathBehind_10 (fun x10 e10 => ?_)
      refine g_icmp_ge 44 X dX4_pathBehind_13 (by decide) (fun c13 => ?_) (fun c13 => ?_)
      · skip
        exact absurd (by rw [h4, e10]; exact nI_lt (by omega) (by omega)) c13
      · skip
        refine g_aload_n X dX4_pathBehind_16 rfl ?_
        refine g_iload_n X dX4_pathBehind_17 rfl ?_
        refine gp_V X RM lm_X4_36 (c_X4_next G hR hl hB h3 ha) cl_X4 hR hl rfl rfl rfl (Nat.le_of_ble_eq_true rfl) (by decide) (by decide) dX4_pathBehind_18 (fun v hz q => ?_) (fun _ _ q => q.elim)
        obtain ⟨x18, rfl, e18, rfl⟩ := q
        refine GJ.seq (st' := [.int x18]) rfl ?_
        refine g_istore_n (lv' := [(3, .int x18), (4, .int x4), (2, .int x2), (1, .int x), (0, .ref (ad 4 r 0))]) X dX4_pathBehind_21 (by decide) rfl ?_
        refine g_iload_n X dX4_pathBehind_22 rfl ?_
        refine g_iconst (v := 1) X dX4_pathBehind_23 (by decide) ?_
        refine g_iload_n X dX4_pathBehind_24 rfl ?_
        refine g_ishl X dX4_pathBehind_25 (fun x25 e25 => ?_)
        refine g_ior X dX4_pathBehind_26 (fun x26 e26 => ?_)
        refine g_istore_n (lv' := [(2, .int x26), (3, .int x18), (4, .int x4), (1, .int x), (0, .ref (ad 4 r 0))]) X dX4_pathBehind_27 (by decide) rfl ?_
        refine g_aload_n X dX4_pathBehind_28 rfl ?_
        refine g_iload_n X dX4_pathBehind_29 rfl ?_
        refine gp_V X RM lm_X4_40 (c_X4_isStop G hR hl hB e18 (fNx_lt ha)) cl_X4 hR hl rfl rfl rfl (Nat.le_of_ble_eq_true rfl) (by decide) (by decide) dX4_pathBehind_30 (fun v hz q => ?_) (fun _ _ q => q.elim)
        obtain ⟨x30, rfl, e30, rfl⟩ := q
        refine GJ.seq (st' := [.int x30]) rfl ?_
        refine g_if_eq 38 X dX4_pathBehind_33 (by decide) (fun c33 => ?_) (fun c33 => ?_)
        · skip
          refine gp_iinc 2 X dX4_pathBehind_38 rfl (by decide) (fun x38 e38 => ?_)
          refine GJ.leq (lv' := [(4, .int x38), (2, .int x26), (3, .int x18), (1, .int x), (0, .ref (ad 4 r 0))]) rfl ?_
          refine g_goto 7 X dX4_pathBehind_41 (by decide) ?_
          refine GJ.pick [0, 2, 1, 3, 4] rfl ?_
          exact ih (k + 1) (fNx (pnB P r) a) x26 x18 x38 (by omega) (fNx_lt ha) (by rw [← hf, fPath, if_neg (by rw [(bz e30).1.mp c33]; decide), e26, e25, e18]) e18 (by rw [e38, h4]; exact nI_1 k)
        · skip
          refine g_iload_n X dX4_pathBehind_36 rfl ?_
          refine g_ireturn X E rfl dX4_pathBehind_37 (by decide) (by decide) ?_
          refine ⟨_, rfl, ?_, rfl⟩
          rw [← hf, fPath, if_pos ((bz e30).2.mp c33), e26, e25, e18]
  refine g_iconst (v := 0) X dX4_pathBehind_0 (by decide) ?_
  refine g_istore_n (lv' := [(2, .int 0), (0, .ref (ad 4 r 0)), (1, .int x)]) X dX4_pathBehind_1 (by decide) rfl ?_
  refine g_iload_n X dX4_pathBehind_2 rfl ?_
  refine g_istore_n (lv' := [(3, .int x), (2, .int 0), (0, .ref (ad 4 r 0)), (1, .int x)]) X dX4_pathBehind_3 (by decide) rfl ?_
  refine g_iconst (v := 0) X dX4_pathBehind_4 (by decide) ?_
  refine g_istore (lv' := [(4, .int 0), (3, .int x), (2, .int 0), (0, .ref (ad 4 r 0)), (1, .int x)]) X dX4_pathBehind_5 (by decide) rfl ?_
  refine GJ.pick [0, 1, 2, 4, 3] rfl ?_
  exact L (pnB P r) 0 j 0 x 0 (by omega) hj rfl hx rfl
set_option maxHeartbeats 4000000 in
set_option maxRecDepth 100000 in
theorem c_X4_isRunBad {Z : gEnv} {ad : gAd} {P : gP} {h : gH} (G : gG Z) (hR : gRep Z ad P h) {r : Nat} (hl : gLive P 4 r 0) (hB : pnB P r ≤ 12) {x : Int32} {j : Nat} (hx : x = nI j) (hj : j < pnB P r) {w : Int32} : gMet Z yX4_isRunBad cX4_isRunBad 9 ((Option.some FieldType.boolean)) 3 0 0 [.ref (ad 4 r 0), .int x, .int w] h (qI h (fun y => y = if fBad P r w (pnB P r) (fNx (pnB P r) j) 3 0 then 1 else 0)) (qN) := by
  refine g_enter (lv := [(0, .ref (ad 4 r 0)), (1, .int x), (2, .int w)]) G.2 (by decide +kernel) (Nat.le_of_ble_eq_true rfl) rfl (fun Γ X Nt E RM => ?_)
  have L : ∀ (m : Nat) (k a : Nat) (x3 x4 x5 x6 : Int32) (hm : m + k = pnB P r) (ha : a < pnB P r) (hf : fBad P r w m a x3 x4 = fBad P r w (pnB P r) (fNx (pnB P r) j) 3 0) (h5 : x5 = nI a) (h6 : x6 = nI k), GJ Z Γ h 0 0 15 [(6, .int x6), (5, .int x5), (4, .int x4), (3, .int x3), (2, .int w), (1, .int x), (0, .ref (ad 4 r 0))] [] := by
    intro m
    induction m with
    | zero =>
      intro k a x3 x4 x5 x6 hm ha hf h5 h6
      refine g_iload X dX4_isRunBad_15 rfl ?_
      refine g_aload_n X dX4_isRunBad_17 rfl ?_
      refine gp_geti (j := 1) X hR hl cl_X4 lk_X4_17 rfl (by decide) rfl rfl dX4_isRunBad_18 (fun x18 e18 => ?_)
      refine g_icmp_ge 112 X dX4_isRunBad_21 (by decide) (fun c21 => ?_) (fun c21 => ?_)
      · skip
        refine g_iconst (v := 0) X dX4_isRunBad_112 (by decide) ?_
        refine g_ireturn X E (by decide) dX4_isRunBad_113 (by decide) (by decide) ?_
        refine ⟨_, rfl, ?_, rfl⟩
        rw [← hf, fBad]
        rfl
      · skip
        exact absurd c21 (by rw [h6, e18, ← hm, Nat.zero_add]; exact nI_nlt (Nat.le_refl _) (by omega))
    | succ m ih =>
      intro k a x3 x4 x5 x6 hm ha hf h5 h6
      refine g_iload X dX4_isRunBad_15 rfl ?_
      refine g_aload_n X dX4_isRunBad_17 rfl ?_
      refine gp_geti (j := 1) X hR hl cl_X4 lk_X4_17 rfl (by decide) rfl rfl dX4_isRunBad_18 (fun x18 e18 => ?_)
      refine g_icmp_ge 112 X dX4_isRunBad_21 (by decide) (fun c21 => ?_) (fun c21 => ?_)
      · skip
        exact absurd (by rw [h6, e18]; exact nI_lt (by omega) (by omega)) c21
      · skip
        refine g_aload_n X dX4_isRunBad_24 rfl ?_
        refine g_iload X dX4_isRunBad_25 rfl ?_
        refine gp_V X RM lm_X4_28 (c_X4_blockOrNull G hR hl hB) cl_X4 hR hl rfl rfl rfl (Nat.le_of_ble_eq_true rfl) (by decide) (by decide) dX4_isRunBad_27 (fun v hz q => ?_) (fun _ _ q => q.elim)
        obtain ⟨w27, rfl, e27, rfl⟩ := q
        rcases e27 with ⟨j27, f27, k27, rfl⟩ | ⟨rfl, f27⟩
        · skip
          obtain rfl : a = j27 := (nI_eq (Nat.lt_of_lt_of_le ha (Nat.le_trans hB (by decide))) (by omega)).mp ((h5).symm.trans f27)
          have hl27 : gLive P 0 r a := ⟨(hl).1, k27⟩
          refine GJ.seq (st' := [.ref (ad 0 r a)]) rfl ?_
          refine g_astore (lv' := [(7, .ref (ad 0 r a)), (6, .int x6), (5, .int x5), (4, .int x4), (3, .int x3), (2, .int w), (1, .int x), (0, .ref (ad 4 r 0))]) X dX4_isRunBad_30 (by decide) rfl ?_
          refine g_aload X dX4_isRunBad_32 rfl ?_
          refine g_ifnull X dX4_isRunBad_34 ?_
          refine g_aload X dX4_isRunBad_37 rfl ?_
          refine gp_V X RM lm_X4_32 (c_X0_isStop G hR hl27) cl_X0 hR hl27 rfl rfl rfl (Nat.le_of_ble_eq_true rfl) (by decide) (by decide) dX4_isRunBad_39 (fun v hz q => ?_) (fun _ _ q => q.elim)
          obtain ⟨x39, rfl, e39, rfl⟩ := q
          refine GJ.seq (st' := [.int x39]) rfl ?_
          refine g_if_eq 47 X dX4_isRunBad_42 (by decide) (fun c42 => ?_) (fun c42 => ?_)
          · skip
            refine g_aload X dX4_isRunBad_47 rfl ?_
            refine g_iload_n X dX4_isRunBad_49 rfl ?_
            refine gp_V X RM lm_X4_43 (c_X0_forceFor G hR hl27) cl_X0 hR hl27 rfl rfl rfl (Nat.le_of_ble_eq_true rfl) (by decide) (by decide) dX4_isRunBad_50 (fun v hz q => ?_) (fun _ _ q => q.elim)
            obtain ⟨x50, rfl, e50, rfl⟩ := q
            refine GJ.seq (st' := [.int x50]) rfl ?_
            refine g_istore (lv' := [(8, .int x50), (7, .ref (ad 0 r a)), (6, .int x6), (5, .int x5), (4, .int x4), (3, .int x3), (2, .int w), (1, .int x), (0, .ref (ad 4 r 0))]) X dX4_isRunBad_53 (by decide) rfl ?_
            refine g_iload X dX4_isRunBad_55 rfl ?_
            refine g_iconst (v := 4) X dX4_isRunBad_57 (by decide) ?_
            refine g_icmp_le 68 X dX4_isRunBad_58 (by decide) (fun c58 => ?_) (fun c58 => ?_)
            · skip
              refine g_iconst (v := 0) X dX4_isRunBad_68 (by decide) ?_
              refine g_istore (lv' := [(4, .int 0), (8, .int x50), (7, .ref (ad 0 r a)), (6, .int x6), (5, .int x5), (3, .int x3), (2, .int w), (1, .int x), (0, .ref (ad 4 r 0))]) X dX4_isRunBad_69 (by decide) rfl ?_
              refine g_aload X dX4_isRunBad_71 rfl ?_
              refine g_iload_n X dX4_isRunBad_73 rfl ?_
              refine g_iload_n X dX4_isRunBad_74 rfl ?_
              refine gp_V X RM lm_X4_46 (c_X0_energyBehind G hR hl27) cl_X0 hR hl27 rfl rfl rfl (Nat.le_of_ble_eq_true rfl) (by decide) (by decide) dX4_isRunBad_75 (fun v hz q => ?_) (fun _ _ q => q.elim)
              obtain ⟨x75, rfl, e75, rfl⟩ := q
              refine GJ.seq (st' := [.int x75]) rfl ?_
              refine g_istore_n (lv' := [(3, .int x75), (4, .int 0), (8, .int x50), (7, .ref (ad 0 r a)), (6, .int x6), (5, .int x5), (2, .int w), (1, .int x), (0, .ref (ad 4 r 0))]) X dX4_isRunBad_78 (by decide) rfl ?_
              refine g_iload X dX4_isRunBad_79 rfl ?_
              refine g_bipush (v := 6) X dX4_isRunBad_81 (by decide) ?_
              refine g_icmp_gt 96 X dX4_isRunBad_83 (by decide) (fun c83 => ?_) (fun c83 => ?_)
              · skip
                refine g_iconst (v := 1) X dX4_isRunBad_96 (by decide) ?_
                refine g_ireturn X E (by decide) dX4_isRunBad_97 (by decide) (by decide) ?_
                refine ⟨_, rfl, ?_, rfl⟩
                rw [← hf, fBad]
                subst_vars
                simp_all [bz, -Int32.not_lt]
              · skip
                refine g_iload X dX4_isRunBad_86 rfl ?_
                refine g_iconst (v := 3) X dX4_isRunBad_88 (by decide) ?_
                refine g_icmp_ge 96 X dX4_isRunBad_89 (by decide) (fun c89 => ?_) (fun c89 => ?_)
                · skip
                  exact absurd c89 (by decide)
                · skip
                  refine g_iload_n X dX4_isRunBad_92 rfl ?_
                  refine g_if_ge 98 X dX4_isRunBad_93 (by decide) (fun c93 => ?_) (fun c93 => ?_)
                  · skip
                    refine g_aload_n X dX4_isRunBad_98 rfl ?_
                    refine g_iload X dX4_isRunBad_99 rfl ?_
                    refine gp_V X RM lm_X4_36 (c_X4_next G hR hl hB h5 ha) cl_X4 hR hl rfl rfl rfl (Nat.le_of_ble_eq_true rfl) (by decide) (by decide) dX4_isRunBad_101 (fun v hz q => ?_) (fun _ _ q => q.elim)
                    obtain ⟨x101, rfl, e101, rfl⟩ := q
                    refine GJ.seq (st' := [.int x101]) rfl ?_
                    refine g_istore (lv' := [(5, .int x101), (3, .int x75), (4, .int 0), (8, .int x50), (7, .ref (ad 0 r a)), (6, .int x6), (2, .int w), (1, .int x), (0, .ref (ad 4 r 0))]) X dX4_isRunBad_104 (by decide) rfl ?_
                    refine gp_iinc 5 X dX4_isRunBad_106 rfl (by decide) (fun x106 e106 => ?_)
                    refine GJ.leq (lv' := [(6, .int x106), (5, .int x101), (3, .int x75), (4, .int 0), (8, .int x50), (7, .ref (ad 0 r a)), (2, .int w), (1, .int x), (0, .ref (ad 4 r 0))]) rfl ?_
                    refine g_goto 15 X dX4_isRunBad_109 (by decide) ?_
                    refine GJ.pick [0, 1, 3, 2, 6, 7, 8] rfl ?_
                    exact ih (k + 1) (fNx (pnB P r) a) x75 0 x101 x106 (by omega) (fNx_lt ha) (by rw [← hf, fBad]; subst_vars; simp_all [bz, -Int32.not_lt]) e101 (by rw [e106, h6]; exact nI_1 k)
                  · skip
                    refine g_iconst (v := 1) X dX4_isRunBad_96 (by decide) ?_
                    refine g_ireturn X E (by decide) dX4_isRunBad_97 (by decide) (by decide) ?_
                    refine ⟨_, rfl, ?_, rfl⟩
                    rw [← hf, fBad]
                    subst_vars
                    simp_all [bz, -Int32.not_lt]
            · skip
              refine g_iload X dX4_isRunBad_61 rfl ?_
              refine g_iconst (v := 1) X dX4_isRunBad_63 (by decide) ?_
              refine g_iadd X dX4_isRunBad_64 (fun x64 e64 => ?_)
              refine g_goto 69 X dX4_isRunBad_65 (by decide) ?_
              refine g_istore (lv' := [(4, .int x64), (8, .int x50), (7, .ref (ad 0 r a)), (6, .int x6), (5, .int x5), (3, .int x3), (2, .int w), (1, .int x), (0, .ref (ad 4 r 0))]) X dX4_isRunBad_69 (by decide) rfl ?_
              refine g_aload X dX4_isRunBad_71 rfl ?_
              refine g_iload_n X dX4_isRunBad_73 rfl ?_
              refine g_iload_n X dX4_isRunBad_74 rfl ?_
              refine gp_V X RM lm_X4_46 (c_X0_energyBehind G hR hl27) cl_X0 hR hl27 rfl rfl rfl (Nat.le_of_ble_eq_true rfl) (by decide) (by decide) dX4_isRunBad_75 (fun v hz q => ?_) (fun _ _ q => q.elim)
              obtain ⟨x75, rfl, e75, rfl⟩ := q
              refine GJ.seq (st' := [.int x75]) rfl ?_
              refine g_istore_n (lv' := [(3, .int x75), (4, .int x64), (8, .int x50), (7, .ref (ad 0 r a)), (6, .int x6), (5, .int x5), (2, .int w), (1, .int x), (0, .ref (ad 4 r 0))]) X dX4_isRunBad_78 (by decide) rfl ?_
              refine g_iload X dX4_isRunBad_79 rfl ?_
              refine g_bipush (v := 6) X dX4_isRunBad_81 (by decide) ?_
              refine g_icmp_gt 96 X dX4_isRunBad_83 (by decide) (fun c83 => ?_) (fun c83 => ?_)
              · skip
                refine g_iconst (v := 1) X dX4_isRunBad_96 (by decide) ?_
                refine g_ireturn X E (by decide) dX4_isRunBad_97 (by decide) (by decide) ?_
                refine ⟨_, rfl, ?_, rfl⟩
                rw [← hf, fBad]
                subst_vars
                simp_all [bz, -Int32.not_lt]
              · skip
                refine g_iload X dX4_isRunBad_86 rfl ?_
                refine g_iconst (v := 3) X dX4_isRunBad_88 (by decide) ?_
                refine g_icmp_ge 96 X dX4_isRunBad_89 (by decide) (fun c89 => ?_) (fun c89 => ?_)
                · skip
                  refine g_iconst (v := 1) X dX4_isRunBad_96 (by decide) ?_
                  refine g_ireturn X E (by decide) dX4_isRunBad_97 (by decide) (by decide) ?_
                  refine ⟨_, rfl, ?_, rfl⟩
                  rw [← hf, fBad]
                  subst_vars
                  simp_all [bz, -Int32.not_lt]
                · skip
                  refine g_iload_n X dX4_isRunBad_92 rfl ?_
                  refine g_if_ge 98 X dX4_isRunBad_93 (by decide) (fun c93 => ?_) (fun c93 => ?_)
                  · skip
                    refine g_aload_n X dX4_isRunBad_98 rfl ?_
                    refine g_iload X dX4_isRunBad_99 rfl ?_
                    refine gp_V X RM lm_X4_36 (c_X4_next G hR hl hB h5 ha) cl_X4 hR hl rfl rfl rfl (Nat.le_of_ble_eq_true rfl) (by decide) (by decide) dX4_isRunBad_101 (fun v hz q => ?_) (fun _ _ q => q.elim)
                    obtain ⟨x101, rfl, e101, rfl⟩ := q
                    refine GJ.seq (st' := [.int x101]) rfl ?_
                    refine g_istore (lv' := [(5, .int x101), (3, .int x75), (4, .int x64), (8, .int x50), (7, .ref (ad 0 r a)), (6, .int x6), (2, .int w), (1, .int x), (0, .ref (ad 4 r 0))]) X dX4_isRunBad_104 (by decide) rfl ?_
                    refine gp_iinc 5 X dX4_isRunBad_106 rfl (by decide) (fun x106 e106 => ?_)
                    refine GJ.leq (lv' := [(6, .int x106), (5, .int x101), (3, .int x75), (4, .int x64), (8, .int x50), (7, .ref (ad 0 r a)), (2, .int w), (1, .int x), (0, .ref (ad 4 r 0))]) rfl ?_
                    refine g_goto 15 X dX4_isRunBad_109 (by decide) ?_
                    refine GJ.pick [0, 1, 3, 2, 6, 7, 8] rfl ?_
                    exact ih (k + 1) (fNx (pnB P r) a) x75 x64 x101 x106 (by omega) (fNx_lt ha) (by rw [← hf, fBad]; subst_vars; simp_all [bz, -Int32.not_lt]) e101 (by rw [e106, h6]; exact nI_1 k)
                  · skip
                    refine g_iconst (v := 1) X dX4_isRunBad_96 (by decide) ?_
                    refine g_ireturn X E (by decide) dX4_isRunBad_97 (by decide) (by decide) ?_
                    refine ⟨_, rfl, ?_, rfl⟩
                    rw [← hf, fBad]
                    subst_vars
                    simp_all [bz, -Int32.not_lt]
          · skip
            refine g_iconst (v := 0) X dX4_isRunBad_45 (by decide) ?_
            refine g_ireturn X E (by decide) dX4_isRunBad_46 (by decide) (by decide) ?_
            refine ⟨_, rfl, ?_, rfl⟩
            rw [← hf, fBad]
            subst_vars
            simp_all [bz, -Int32.not_lt]
        · skip
          exact absurd h5 (f27 _ ha)
  refine g_iconst (v := 3) X dX4_isRunBad_0 (by decide) ?_
  refine g_istore_n (lv' := [(3, .int 3), (0, .ref (ad 4 r 0)), (1, .int x), (2, .int w)]) X dX4_isRunBad_1 (by decide) rfl ?_
  refine g_iconst (v := 0) X dX4_isRunBad_2 (by decide) ?_
  refine g_istore (lv' := [(4, .int 0), (3, .int 3), (0, .ref (ad 4 r 0)), (1, .int x), (2, .int w)]) X dX4_isRunBad_3 (by decide) rfl ?_
  refine g_aload_n X dX4_isRunBad_5 rfl ?_
  refine g_iload_n X dX4_isRunBad_6 rfl ?_
  refine gp_V X RM lm_X4_36 (c_X4_next G hR hl hB hx hj) cl_X4 hR hl rfl rfl rfl (Nat.le_of_ble_eq_true rfl) (by decide) (by decide) dX4_isRunBad_7 (fun v hz q => ?_) (fun _ _ q => q.elim)
  obtain ⟨x7, rfl, e7, rfl⟩ := q
  refine GJ.seq (st' := [.int x7]) rfl ?_
  refine g_istore (lv' := [(5, .int x7), (4, .int 0), (3, .int 3), (0, .ref (ad 4 r 0)), (1, .int x), (2, .int w)]) X dX4_isRunBad_10 (by decide) rfl ?_
  refine g_iconst (v := 0) X dX4_isRunBad_12 (by decide) ?_
  refine g_istore (lv' := [(6, .int 0), (5, .int x7), (4, .int 0), (3, .int 3), (0, .ref (ad 4 r 0)), (1, .int x), (2, .int w)]) X dX4_isRunBad_13 (by decide) rfl ?_
  refine GJ.pick [0, 1, 2, 3, 6, 5, 4] rfl ?_
  exact L (pnB P r) 0 (fNx (pnB P r) j) 3 0 x7 0 (by omega) (fNx_lt hj) rfl e7 rfl
set_option maxHeartbeats 4000000 in
set_option maxRecDepth 100000 in
theorem c_X4_canBeClosed {Z : gEnv} {ad : gAd} {P : gP} {h : gH} (G : gG Z) (hR : gRep Z ad P h) {r : Nat} (hl : gLive P 4 r 0) (hB : pnB P r ≤ 12) : gMet Z yX4_canBeClosed cX4_canBeClosed 7 ((Option.some FieldType.boolean)) 2 0 0 [.ref (ad 4 r 0)] h (qI h (fun y => (y = 0 ∨ y = 1) ∧ (y = 1 → 4 ≤ pnB P r ∧ pI P 0 r 0 0 = 115))) (qN) := by
  refine g_enter (lv := [(0, .ref (ad 4 r 0))]) G.2 (by decide +kernel) (Nat.le_of_ble_eq_true rfl) rfl (fun Γ X Nt E RM => ?_)
  have L : ∀ (m : Nat) (k : Nat) (x1 x2 x5 : Int32) (hm : m + k = 12) (h5 : x5 = nI k), GJ Z Γ h 0 0 16 [(5, .int x5), (4, .int 12), (3, .ref (ad 10 r 0)), (2, .int x2), (1, .int x1), (0, .ref (ad 4 r 0))] [] := by
    intro m
    induction m with
    | zero =>
      intro k x1 x2 x5 hm h5
      refine g_iload X dX4_canBeClosed_16 rfl ?_
      refine g_iload X dX4_canBeClosed_18 rfl ?_
      refine g_icmp_ge 66 X dX4_canBeClosed_20 (by decide) (fun c20 => ?_) (fun c20 => ?_)
      · skip
        refine g_aload_n X dX4_canBeClosed_66 rfl ?_
        refine g_iconst (v := 0) X dX4_canBeClosed_67 (by decide) ?_
        refine gp_V X RM lm_X4_28 (c_X4_blockOrNull G hR hl hB) cl_X4 hR hl rfl rfl rfl (Nat.le_of_ble_eq_true rfl) (by decide) (by decide) dX4_canBeClosed_68 (fun v hz q => ?_) (fun _ _ q => q.elim)
        obtain ⟨w68, rfl, e68, rfl⟩ := q
        rcases e68 with ⟨j68, f68, k68, rfl⟩ | ⟨rfl, f68⟩
        · skip
          obtain rfl : 0 = j68 := (nI_eq (a := 0) (by omega) (by omega)).mp f68
          have hl68 : gLive P 0 r 0 := ⟨(hl).1, k68⟩
          refine GJ.seq (st' := [.ref (ad 0 r 0)]) rfl ?_
          refine g_astore_n (lv' := [(3, .ref (ad 0 r 0)), (5, .int x5), (4, .int 12), (2, .int x2), (1, .int x1), (0, .ref (ad 4 r 0))]) X dX4_canBeClosed_71 (by decide) rfl ?_
          refine g_aload_n X dX4_canBeClosed_72 rfl ?_
          refine gp_geti (j := 1) X hR hl cl_X4 lk_X4_17 rfl (by decide) rfl rfl dX4_canBeClosed_73 (fun x73 e73 => ?_)
          refine g_iconst (v := 4) X dX4_canBeClosed_76 (by decide) ?_
          refine g_icmp_lt 106 X dX4_canBeClosed_77 (by decide) (fun c77 => ?_) (fun c77 => ?_)
          · skip
            refine g_iconst (v := 0) X dX4_canBeClosed_106 (by decide) ?_
            refine g_ireturn X E (by decide) dX4_canBeClosed_107 (by decide) (by decide) ?_
            refine ⟨_, rfl, ⟨Or.inl rfl, fun hh => absurd hh (by decide)⟩, rfl⟩
          · skip
            refine g_aload_n X dX4_canBeClosed_80 rfl ?_
            refine g_ifnull X dX4_canBeClosed_81 ?_
            refine g_aload_n X dX4_canBeClosed_84 rfl ?_
            refine gp_geti (j := 0) X hR hl68 cl_X0 lk_X4_21 rfl (by decide) rfl rfl dX4_canBeClosed_85 (fun x85 e85 => ?_)
            refine g_bipush (v := 115) X dX4_canBeClosed_88 (by decide) ?_
            refine g_icmp_ne 106 X dX4_canBeClosed_90 (by decide) (fun c90 => ?_) (fun c90 => ?_)
            · skip
              refine g_iconst (v := 0) X dX4_canBeClosed_106 (by decide) ?_
              refine g_ireturn X E (by decide) dX4_canBeClosed_107 (by decide) (by decide) ?_
              refine ⟨_, rfl, ⟨Or.inl rfl, fun hh => absurd hh (by decide)⟩, rfl⟩
            · skip
              refine g_iload_n X dX4_canBeClosed_93 rfl ?_
              refine g_iconst (v := 1) X dX4_canBeClosed_94 (by decide) ?_
              refine g_icmp_ne 106 X dX4_canBeClosed_95 (by decide) (fun c95 => ?_) (fun c95 => ?_)
              · skip
                refine g_iconst (v := 0) X dX4_canBeClosed_106 (by decide) ?_
                refine g_ireturn X E (by decide) dX4_canBeClosed_107 (by decide) (by decide) ?_
                refine ⟨_, rfl, ⟨Or.inl rfl, fun hh => absurd hh (by decide)⟩, rfl⟩
              · skip
                refine g_iload_n X dX4_canBeClosed_98 rfl ?_
                refine g_if_ne 106 X dX4_canBeClosed_99 (by decide) (fun c99 => ?_) (fun c99 => ?_)
                · skip
                  refine g_iconst (v := 0) X dX4_canBeClosed_106 (by decide) ?_
                  refine g_ireturn X E (by decide) dX4_canBeClosed_107 (by decide) (by decide) ?_
                  refine ⟨_, rfl, ⟨Or.inl rfl, fun hh => absurd hh (by decide)⟩, rfl⟩
                · skip
                  refine g_iconst (v := 1) X dX4_canBeClosed_102 (by decide) ?_
                  refine g_goto 107 X dX4_canBeClosed_103 (by decide) ?_
                  refine g_ireturn X E (by decide) dX4_canBeClosed_107 (by decide) (by decide) ?_
                  refine ⟨_, rfl, ⟨Or.inr rfl, fun _ => ⟨?_, by rw [← e85]; exact c90⟩⟩, rfl⟩
                  rcases Nat.lt_or_ge (pnB P r) 4 with q | q
                  · exact absurd (by rw [e73]; exact nI_lt q (by decide)) c77
                  · exact q
        · skip
          refine GJ.seq (st' := [.null]) rfl ?_
          refine g_astore_nN (lv' := [(3, .null), (5, .int x5), (4, .int 12), (2, .int x2), (1, .int x1), (0, .ref (ad 4 r 0))]) X dX4_canBeClosed_71 (by decide) rfl ?_
          refine g_aload_n X dX4_canBeClosed_72 rfl ?_
          refine gp_geti (j := 1) X hR hl cl_X4 lk_X4_17 rfl (by decide) rfl rfl dX4_canBeClosed_73 (fun x73 e73 => ?_)
          refine g_iconst (v := 4) X dX4_canBeClosed_76 (by decide) ?_
          refine g_icmp_lt 106 X dX4_canBeClosed_77 (by decide) (fun c77 => ?_) (fun c77 => ?_)
          · skip
            refine g_iconst (v := 0) X dX4_canBeClosed_106 (by decide) ?_
            refine g_ireturn X E (by decide) dX4_canBeClosed_107 (by decide) (by decide) ?_
            refine ⟨_, rfl, ⟨Or.inl rfl, fun hh => absurd hh (by decide)⟩, rfl⟩
          · skip
            refine g_aload_nN X dX4_canBeClosed_80 rfl ?_
            refine g_ifnullN 106 X dX4_canBeClosed_81 (by decide) ?_
            refine g_iconst (v := 0) X dX4_canBeClosed_106 (by decide) ?_
            refine g_ireturn X E (by decide) dX4_canBeClosed_107 (by decide) (by decide) ?_
            refine ⟨_, rfl, ⟨Or.inl rfl, fun hh => absurd hh (by decide)⟩, rfl⟩
      · skip
        exact absurd c20 (by rw [h5]; exact nI_nlt (b := 12) (by omega) (by omega))
    | succ m ih =>
      intro k x1 x2 x5 hm h5
      refine g_iload X dX4_canBeClosed_16 rfl ?_
      refine g_iload X dX4_canBeClosed_18 rfl ?_
      refine g_icmp_ge 66 X dX4_canBeClosed_20 (by decide) (fun c20 => ?_) (fun c20 => ?_)
      · skip
        exact absurd (by rw [h5]; exact nI_lt (b := 12) (by omega) (by omega)) c20
      · skip
        refine g_aload_n X dX4_canBeClosed_23 rfl ?_
        refine g_iload X dX4_canBeClosed_24 rfl ?_
        refine gp_aald_if (j := k) X hR hl G.t3 rfl h5 (by omega) (by decide) dX4_canBeClosed_26 (fun h26 => ?_) (fun h26 => ?_)
        · skip
          have hl26 : gLive P 0 r k := ⟨(hl).1, h26⟩
          refine g_astore (lv' := [(6, .ref (ad 0 r k)), (5, .int x5), (4, .int 12), (3, .ref (ad 10 r 0)), (2, .int x2), (1, .int x1), (0, .ref (ad 4 r 0))]) X dX4_canBeClosed_27 (by decide) rfl ?_
          refine g_aload X dX4_canBeClosed_29 rfl ?_
          refine g_ifnull X dX4_canBeClosed_31 ?_
          refine g_iload_n X dX4_canBeClosed_34 rfl ?_
          refine g_aload X dX4_canBeClosed_35 rfl ?_
          refine gp_geti (j := 0) X hR hl26 cl_X0 lk_X4_21 rfl (by decide) rfl rfl dX4_canBeClosed_37 (fun x37 e37 => ?_)
          refine g_bipush (v := 115) X dX4_canBeClosed_40 (by decide) ?_
          refine g_icmp_ne 49 X dX4_canBeClosed_42 (by decide) (fun c42 => ?_) (fun c42 => ?_)
          · skip
            refine g_iconst (v := 0) X dX4_canBeClosed_49 (by decide) ?_
            refine g_iadd X dX4_canBeClosed_50 (fun x50 e50 => ?_)
            refine g_istore_n (lv' := [(1, .int x50), (6, .ref (ad 0 r k)), (5, .int x5), (4, .int 12), (3, .ref (ad 10 r 0)), (2, .int x2), (0, .ref (ad 4 r 0))]) X dX4_canBeClosed_51 (by decide) rfl ?_
            refine g_iload_n X dX4_canBeClosed_52 rfl ?_
            refine g_aload X dX4_canBeClosed_53 rfl ?_
            refine gp_geti (j := 2) X hR hl26 cl_X0 lk_X4_25 rfl (by decide) rfl rfl dX4_canBeClosed_55 (fun x55 e55 => ?_)
            refine g_iadd X dX4_canBeClosed_58 (fun x58 e58 => ?_)
            refine g_istore_n (lv' := [(2, .int x58), (1, .int x50), (6, .ref (ad 0 r k)), (5, .int x5), (4, .int 12), (3, .ref (ad 10 r 0)), (0, .ref (ad 4 r 0))]) X dX4_canBeClosed_59 (by decide) rfl ?_
            refine gp_iinc 3 X dX4_canBeClosed_60 rfl (by decide) (fun x60 e60 => ?_)
            refine GJ.leq (lv' := [(5, .int x60), (2, .int x58), (1, .int x50), (6, .ref (ad 0 r k)), (4, .int 12), (3, .ref (ad 10 r 0)), (0, .ref (ad 4 r 0))]) rfl ?_
            refine g_goto 16 X dX4_canBeClosed_63 (by decide) ?_
            refine GJ.pick [0, 4, 5, 1, 2, 6] rfl ?_
            exact ih (k + 1) x50 x58 x60 (by omega) (by rw [e60, h5]; exact nI_1 k)
          · skip
            refine g_iconst (v := 1) X dX4_canBeClosed_45 (by decide) ?_
            refine g_goto 50 X dX4_canBeClosed_46 (by decide) ?_
            refine g_iadd X dX4_canBeClosed_50 (fun x50 e50 => ?_)
            refine g_istore_n (lv' := [(1, .int x50), (6, .ref (ad 0 r k)), (5, .int x5), (4, .int 12), (3, .ref (ad 10 r 0)), (2, .int x2), (0, .ref (ad 4 r 0))]) X dX4_canBeClosed_51 (by decide) rfl ?_
            refine g_iload_n X dX4_canBeClosed_52 rfl ?_
            refine g_aload X dX4_canBeClosed_53 rfl ?_
            refine gp_geti (j := 2) X hR hl26 cl_X0 lk_X4_25 rfl (by decide) rfl rfl dX4_canBeClosed_55 (fun x55 e55 => ?_)
            refine g_iadd X dX4_canBeClosed_58 (fun x58 e58 => ?_)
            refine g_istore_n (lv' := [(2, .int x58), (1, .int x50), (6, .ref (ad 0 r k)), (5, .int x5), (4, .int 12), (3, .ref (ad 10 r 0)), (0, .ref (ad 4 r 0))]) X dX4_canBeClosed_59 (by decide) rfl ?_
            refine gp_iinc 3 X dX4_canBeClosed_60 rfl (by decide) (fun x60 e60 => ?_)
            refine GJ.leq (lv' := [(5, .int x60), (2, .int x58), (1, .int x50), (6, .ref (ad 0 r k)), (4, .int 12), (3, .ref (ad 10 r 0)), (0, .ref (ad 4 r 0))]) rfl ?_
            refine g_goto 16 X dX4_canBeClosed_63 (by decide) ?_
            refine GJ.pick [0, 4, 5, 1, 2, 6] rfl ?_
            exact ih (k + 1) x50 x58 x60 (by omega) (by rw [e60, h5]; exact nI_1 k)
        · skip
          refine g_astoreN (lv' := [(6, .null), (5, .int x5), (4, .int 12), (3, .ref (ad 10 r 0)), (2, .int x2), (1, .int x1), (0, .ref (ad 4 r 0))]) X dX4_canBeClosed_27 (by decide) rfl ?_
          refine g_aloadN X dX4_canBeClosed_29 rfl ?_
          refine g_ifnullN 60 X dX4_canBeClosed_31 (by decide) ?_
          refine gp_iinc 1 X dX4_canBeClosed_60 rfl (by decide) (fun x60 e60 => ?_)
          refine GJ.leq (lv' := [(5, .int x60), (6, .null), (4, .int 12), (3, .ref (ad 10 r 0)), (2, .int x2), (1, .int x1), (0, .ref (ad 4 r 0))]) rfl ?_
          refine g_goto 16 X dX4_canBeClosed_63 (by decide) ?_
          refine GJ.pick [0, 2, 3, 4, 5, 6] rfl ?_
          exact ih (k + 1) x1 x2 x60 (by omega) (by rw [e60, h5]; exact nI_1 k)
  refine g_iconst (v := 0) X dX4_canBeClosed_0 (by decide) ?_
  refine g_istore_n (lv' := [(1, .int 0), (0, .ref (ad 4 r 0))]) X dX4_canBeClosed_1 (by decide) rfl ?_
  refine g_iconst (v := 0) X dX4_canBeClosed_2 (by decide) ?_
  refine g_istore_n (lv' := [(2, .int 0), (1, .int 0), (0, .ref (ad 4 r 0))]) X dX4_canBeClosed_3 (by decide) rfl ?_
  refine g_aload_n X dX4_canBeClosed_4 rfl ?_
  refine gp_get (j := 0) (v := .ref (ad 10 r 0)) X hR hl cl_X4 lk_X4_11 rfl (by decide) rfl rfl dX4_canBeClosed_5 ?_
  refine g_astore_n (lv' := [(3, .ref (ad 10 r 0)), (2, .int 0), (1, .int 0), (0, .ref (ad 4 r 0))]) X dX4_canBeClosed_8 (by decide) rfl ?_
  refine g_aload_n X dX4_canBeClosed_9 rfl ?_
  refine gp_alen (v := 12) X hR hl G.t3 rfl rfl dX4_canBeClosed_10 ?_
  refine g_istore (lv' := [(4, .int 12), (3, .ref (ad 10 r 0)), (2, .int 0), (1, .int 0), (0, .ref (ad 4 r 0))]) X dX4_canBeClosed_11 (by decide) rfl ?_
  refine g_iconst (v := 0) X dX4_canBeClosed_13 (by decide) ?_
  refine g_istore (lv' := [(5, .int 0), (4, .int 12), (3, .ref (ad 10 r 0)), (2, .int 0), (1, .int 0), (0, .ref (ad 4 r 0))]) X dX4_canBeClosed_14 (by decide) rfl ?_
  exact L 12 0 0 0 0 rfl rfl
set_option maxHeartbeats 4000000 in
set_option maxRecDepth 100000 in
theorem c_X4_countStops {Z : gEnv} {ad : gAd} {P : gP} {h : gH} (G : gG Z) (hR : gRep Z ad P h) {r : Nat} (hl : gLive P 4 r 0) (hB : pnB P r ≤ 12) : gMet Z yX4_countStops cX4_countStops 6 ((Option.some FieldType.int)) 2 0 0 [.ref (ad 4 r 0)] h (qI h (fun _ => True)) (qN) := by
  refine g_enter (lv := [(0, .ref (ad 4 r 0))]) G.2 (by decide +kernel) (Nat.le_of_ble_eq_true rfl) rfl (fun Γ X Nt E RM => ?_)
  have L : ∀ (m : Nat) (k : Nat) (x1 x4 : Int32) (hm : m + k = 12) (h4 : x4 = nI k), GJ Z Γ h 0 0 13 [(4, .int x4), (3, .int 12), (2, .ref (ad 10 r 0)), (1, .int x1), (0, .ref (ad 4 r 0))] [] := by
    intro m
    induction m with
    | zero =>
      intro k x1 x4 hm h4
      refine g_iload X dX4_countStops_13 rfl ?_
      refine g_iload_n X dX4_countStops_15 rfl ?_
      refine g_icmp_ge 47 X dX4_countStops_16 (by decide) (fun c16 => ?_) (fun c16 => ?_)
      · skip
        refine g_iload_n X dX4_countStops_47 rfl ?_
        refine g_ireturn X E rfl dX4_countStops_48 (by decide) (by decide) ?_
        exact ⟨_, rfl, trivial, rfl⟩
      · skip
        exact absurd c16 (by rw [h4]; exact nI_nlt (b := 12) (by omega) (by omega))
    | succ m ih =>
      intro k x1 x4 hm h4
      refine g_iload X dX4_countStops_13 rfl ?_
      refine g_iload_n X dX4_countStops_15 rfl ?_
      refine g_icmp_ge 47 X dX4_countStops_16 (by decide) (fun c16 => ?_) (fun c16 => ?_)
      · skip
        exact absurd (by rw [h4]; exact nI_lt (b := 12) (by omega) (by omega)) c16
      · skip
        refine g_aload_n X dX4_countStops_19 rfl ?_
        refine g_iload X dX4_countStops_20 rfl ?_
        refine gp_aald_if (j := k) X hR hl G.t3 rfl h4 (by omega) (by decide) dX4_countStops_22 (fun h22 => ?_) (fun h22 => ?_)
        · skip
          have hl22 : gLive P 0 r k := ⟨(hl).1, h22⟩
          refine g_astore (lv' := [(5, .ref (ad 0 r k)), (4, .int x4), (3, .int 12), (2, .ref (ad 10 r 0)), (1, .int x1), (0, .ref (ad 4 r 0))]) X dX4_countStops_23 (by decide) rfl ?_
          refine g_aload X dX4_countStops_25 rfl ?_
          refine g_ifnull X dX4_countStops_27 ?_
          refine g_aload X dX4_countStops_30 rfl ?_
          refine gp_V X RM lm_X4_32 (c_X0_isStop G hR hl22) cl_X0 hR hl22 rfl rfl rfl (Nat.le_of_ble_eq_true rfl) (by decide) (by decide) dX4_countStops_32 (fun v hz q => ?_) (fun _ _ q => q.elim)
          obtain ⟨x32, rfl, e32, rfl⟩ := q
          refine GJ.seq (st' := [.int x32]) rfl ?_
          refine g_if_eq 41 X dX4_countStops_35 (by decide) (fun c35 => ?_) (fun c35 => ?_)
          · skip
            refine gp_iinc 1 X dX4_countStops_41 rfl (by decide) (fun x41 e41 => ?_)
            refine GJ.leq (lv' := [(4, .int x41), (5, .ref (ad 0 r k)), (3, .int 12), (2, .ref (ad 10 r 0)), (1, .int x1), (0, .ref (ad 4 r 0))]) rfl ?_
            refine g_goto 13 X dX4_countStops_44 (by decide) ?_
            refine GJ.pick [0, 2, 3, 4, 5] rfl ?_
            exact ih (k + 1) x1 x41 (by omega) (by rw [e41, h4]; exact nI_1 k)
          · skip
            refine gp_iinc 4 X dX4_countStops_38 rfl (by decide) (fun x38 e38 => ?_)
            refine GJ.leq (lv' := [(1, .int x38), (5, .ref (ad 0 r k)), (4, .int x4), (3, .int 12), (2, .ref (ad 10 r 0)), (0, .ref (ad 4 r 0))]) rfl ?_
            refine gp_iinc 2 X dX4_countStops_41 rfl (by decide) (fun x41 e41 => ?_)
            refine GJ.leq (lv' := [(4, .int x41), (1, .int x38), (5, .ref (ad 0 r k)), (3, .int 12), (2, .ref (ad 10 r 0)), (0, .ref (ad 4 r 0))]) rfl ?_
            refine g_goto 13 X dX4_countStops_44 (by decide) ?_
            refine GJ.pick [0, 3, 4, 1, 5] rfl ?_
            exact ih (k + 1) x38 x41 (by omega) (by rw [e41, h4]; exact nI_1 k)
        · skip
          refine g_astoreN (lv' := [(5, .null), (4, .int x4), (3, .int 12), (2, .ref (ad 10 r 0)), (1, .int x1), (0, .ref (ad 4 r 0))]) X dX4_countStops_23 (by decide) rfl ?_
          refine g_aloadN X dX4_countStops_25 rfl ?_
          refine g_ifnullN 41 X dX4_countStops_27 (by decide) ?_
          refine gp_iinc 1 X dX4_countStops_41 rfl (by decide) (fun x41 e41 => ?_)
          refine GJ.leq (lv' := [(4, .int x41), (5, .null), (3, .int 12), (2, .ref (ad 10 r 0)), (1, .int x1), (0, .ref (ad 4 r 0))]) rfl ?_
          refine g_goto 13 X dX4_countStops_44 (by decide) ?_
          refine GJ.pick [0, 2, 3, 4, 5] rfl ?_
          exact ih (k + 1) x1 x41 (by omega) (by rw [e41, h4]; exact nI_1 k)
  refine g_iconst (v := 0) X dX4_countStops_0 (by decide) ?_
  refine g_istore_n (lv' := [(1, .int 0), (0, .ref (ad 4 r 0))]) X dX4_countStops_1 (by decide) rfl ?_
  refine g_aload_n X dX4_countStops_2 rfl ?_
  refine gp_get (j := 0) (v := .ref (ad 10 r 0)) X hR hl cl_X4 lk_X4_11 rfl (by decide) rfl rfl dX4_countStops_3 ?_
  refine g_astore_n (lv' := [(2, .ref (ad 10 r 0)), (1, .int 0), (0, .ref (ad 4 r 0))]) X dX4_countStops_6 (by decide) rfl ?_
  refine g_aload_n X dX4_countStops_7 rfl ?_
  refine gp_alen (v := 12) X hR hl G.t3 rfl rfl dX4_countStops_8 ?_
  refine g_istore_n (lv' := [(3, .int 12), (2, .ref (ad 10 r 0)), (1, .int 0), (0, .ref (ad 4 r 0))]) X dX4_countStops_9 (by decide) rfl ?_
  refine g_iconst (v := 0) X dX4_countStops_10 (by decide) ?_
  refine g_istore (lv' := [(4, .int 0), (3, .int 12), (2, .ref (ad 10 r 0)), (1, .int 0), (0, .ref (ad 4 r 0))]) X dX4_countStops_11 (by decide) rfl ?_
  exact L 12 0 0 0 rfl rfl
end GRING
end
section
/-! queues: pure words and contracts; the state with a queue's places as a list -/
section GLINE
variable {Z : gEnv} {Γ : gCtx} {cc : ByteArray} {own : String} {nL : Nat} {ret : Option FieldType} {h : gH} {k n pc : Nat} {lv lv' : List (Nat × Value)} {st st' : List Value} {ad : gAd} {P : gP}
/-- the words of Math.max, Math.min -/
def gLMax (own : String) (idx : Nat) : Prop := Cond.methodLink own idx Lib.Math.max.name ∈ gT ∧ Cond.static Lib.Math.max.name ∈ gT ∧ Cond.initialized "java/lang/Math" ∈ gT ∧ Cond.code Lib.Math.max.name Lib.Math.max.code 2 (some .int) ∈ gT
def gLMin (own : String) (idx : Nat) : Prop := Cond.methodLink own idx Lib.Math.min.name ∈ gT ∧ Cond.static Lib.Math.min.name ∈ gT ∧ Cond.initialized "java/lang/Math" ∈ gT ∧ Cond.code Lib.Math.min.name Lib.Math.min.code 2 (some .int) ∈ gT
theorem gp_max {idx D M S : Nat} {x y : Int32} (X : gOK Z Γ cc own nL ret) (RM : Γ.2.2.1 = gRm D M S) (L : gLMax own idx) (hD : 1 ≤ D ∧ (st.map fun v => v.category).sum + 13 ≤ 50 * D) (hf : k ≤ M ∧ n ≤ S) (d : decode cc pc = .ok (.invokestatic idx, 3)) (kk : ∀ z : Int32, z = (if x < y then y else x) → GJ Z Γ h k n (pc + 3) lv (.int z :: st)) : GJ Z Γ h k n pc lv (.int y :: .int x :: st) := fun H locs ls hw hS hl =>
  va_mmax X.exec X.bytes (by rw [X.maxl]; exact (hl.1.trans X.nl).symm) X.ow (X.wd L.1) (X.wd L.2.1) (X.wd L.2.2.1) (X.wd L.2.2.2) (by rw [RM]; exact hD.1) (by rw [RM]; exact hD.2) (by rw [RM]; exact hf.1) (by rw [RM]; exact hf.2) d (kk _ rfl H locs ls hw hS hl)
theorem gp_min {idx D M S : Nat} {x y : Int32} (X : gOK Z Γ cc own nL ret) (RM : Γ.2.2.1 = gRm D M S) (L : gLMin own idx) (hD : 1 ≤ D ∧ (st.map fun v => v.category).sum + 13 ≤ 50 * D) (hf : k ≤ M ∧ n ≤ S) (d : decode cc pc = .ok (.invokestatic idx, 3)) (kk : ∀ z : Int32, z = (if y < x then y else x) → GJ Z Γ h k n (pc + 3) lv (.int z :: st)) : GJ Z Γ h k n pc lv (.int y :: .int x :: st) := fun H locs ls hw hS hl =>
  va_mmin X.exec X.bytes (by rw [X.maxl]; exact (hl.1.trans X.nl).symm) X.ow (X.wd L.1) (X.wd L.2.1) (X.wd L.2.2.1) (X.wd L.2.2.2) (by rw [RM]; exact hD.1) (by rw [RM]; exact hD.2) (by rw [RM]; exact hf.1) (by rw [RM]; exact hf.2) d (kk _ rfl H locs ls hw hS hl)
theorem lm_X1_59 : gLMax RX1 59 := ⟨gT_at 910 (by decide +kernel) (by decide +kernel), gT_at 789 (by decide +kernel) (by decide +kernel), gT_at 35 (by decide +kernel) (by decide +kernel), gT_at 790 (by decide +kernel) (by decide +kernel)⟩
theorem lm_X1_65 : gLMin RX1 65 := ⟨gT_at 766 (by decide +kernel) (by decide +kernel), gT_at 767 (by decide +kernel) (by decide +kernel), gT_at 35 (by decide +kernel) (by decide +kernel), gT_at 768 (by decide +kernel) (by decide +kernel)⟩
theorem lm_X5_77 : gLMax RX5 77 := ⟨gT_at 788 (by decide +kernel) (by decide +kernel), gT_at 789 (by decide +kernel) (by decide +kernel), gT_at 35 (by decide +kernel) (by decide +kernel), gT_at 790 (by decide +kernel) (by decide +kernel)⟩
theorem lm_L_171 : gLMin RL 171 := ⟨gT_at 1013 (by decide +kernel) (by decide +kernel), gT_at 767 (by decide +kernel) (by decide +kernel), gT_at 35 (by decide +kernel) (by decide +kernel), gT_at 768 (by decide +kernel) (by decide +kernel)⟩
theorem lm_L_176 : gLMax RL 176 := ⟨gT_at 1014 (by decide +kernel) (by decide +kernel), gT_at 789 (by decide +kernel) (by decide +kernel), gT_at 35 (by decide +kernel) (by decide +kernel), gT_at 790 (by decide +kernel) (by decide +kernel)⟩
/-- the places of a queue as a function, as a list; the riders of a train as a list -/
def sPL (P : gP) (r q : Nat) (f : Nat → Option Nat) : gP := (P.1, P.2.1, P.2.2.1, fun r' i' j' => if r' = r ∧ i' = q then f j' else P.2.2.2.1 r' i' j', P.2.2.2.2)
def sRD (P : gP) (r i : Nat) (f : Nat → Option Nat) : gP := (P.1, P.2.1, fun r' i' j' => if r' = r ∧ i' = i then f j' else P.2.2.1 r' i' j', P.2.2.2)
def sLn (P : gP) (r q : Nat) (l : List Nat) : gP := sPL (uI P 2 r q 1 (nI l.length)) r q (fun j => l[j]?)
def sTr (P : gP) (r i : Nat) (l : List Nat) : gP := sRD (uI P 5 r i 2 (nI l.length)) r i (fun j => l[j]?)
theorem pI_sPL (P : gP) (r0 i0 : Nat) (f : Nat → Option Nat) (k r i s : Nat) : pI (sPL P r0 i0 f) k r i s = pI P k r i s := rfl
theorem pJ_sPL (P : gP) (r0 i0 : Nat) (f : Nat → Option Nat) (s : Nat) : pJ (sPL P r0 i0 f) s = pJ P s := rfl
theorem pRD_sPL (P : gP) (r0 i0 : Nat) (f : Nat → Option Nat) (r i j : Nat) : pRD (sPL P r0 i0 f) r i j = pRD P r i j := rfl
theorem pPL_sPL (P : gP) (r0 i0 : Nat) (f : Nat → Option Nat) (r i j : Nat) : pPL (sPL P r0 i0 f) r i j = if r = r0 ∧ i = i0 then f j else pPL P r i j := rfl
theorem pGL_sPL (P : gP) (r0 i0 : Nat) (f : Nat → Option Nat) (g : Nat) : pGL (sPL P r0 i0 f) g = pGL P g := rfl
theorem pnR_sPL (P : gP) (r0 i0 : Nat) (f : Nat → Option Nat)  : pnR (sPL P r0 i0 f) = pnR P := rfl
theorem pnG_sPL (P : gP) (r0 i0 : Nat) (f : Nat → Option Nat)  : pnG (sPL P r0 i0 f) = pnG P := rfl
theorem pnB_sPL (P : gP) (r0 i0 : Nat) (f : Nat → Option Nat) (r : Nat) : pnB (sPL P r0 i0 f) r = pnB P r := rfl
theorem pnT_sPL (P : gP) (r0 i0 : Nat) (f : Nat → Option Nat) (r : Nat) : pnT (sPL P r0 i0 f) r = pnT P r := rfl
theorem pnX_sPL (P : gP) (r0 i0 : Nat) (f : Nat → Option Nat)  : pnX (sPL P r0 i0 f) = pnX P := rfl
theorem gLive_sPL (P : gP) (r0 i0 : Nat) (f : Nat → Option Nat) (k r i : Nat) : gLive (sPL P r0 i0 f) k r i = gLive P k r i := rfl
theorem pI_sRD (P : gP) (r0 i0 : Nat) (f : Nat → Option Nat) (k r i s : Nat) : pI (sRD P r0 i0 f) k r i s = pI P k r i s := rfl
theorem pJ_sRD (P : gP) (r0 i0 : Nat) (f : Nat → Option Nat) (s : Nat) : pJ (sRD P r0 i0 f) s = pJ P s := rfl
theorem pRD_sRD (P : gP) (r0 i0 : Nat) (f : Nat → Option Nat) (r i j : Nat) : pRD (sRD P r0 i0 f) r i j = if r = r0 ∧ i = i0 then f j else pRD P r i j := rfl
theorem pPL_sRD (P : gP) (r0 i0 : Nat) (f : Nat → Option Nat) (r i j : Nat) : pPL (sRD P r0 i0 f) r i j = pPL P r i j := rfl
theorem pGL_sRD (P : gP) (r0 i0 : Nat) (f : Nat → Option Nat) (g : Nat) : pGL (sRD P r0 i0 f) g = pGL P g := rfl
theorem pnR_sRD (P : gP) (r0 i0 : Nat) (f : Nat → Option Nat)  : pnR (sRD P r0 i0 f) = pnR P := rfl
theorem pnG_sRD (P : gP) (r0 i0 : Nat) (f : Nat → Option Nat)  : pnG (sRD P r0 i0 f) = pnG P := rfl
theorem pnB_sRD (P : gP) (r0 i0 : Nat) (f : Nat → Option Nat) (r : Nat) : pnB (sRD P r0 i0 f) r = pnB P r := rfl
theorem pnT_sRD (P : gP) (r0 i0 : Nat) (f : Nat → Option Nat) (r : Nat) : pnT (sRD P r0 i0 f) r = pnT P r := rfl
theorem pnX_sRD (P : gP) (r0 i0 : Nat) (f : Nat → Option Nat)  : pnX (sRD P r0 i0 f) = pnX P := rfl
theorem gLive_sRD (P : gP) (r0 i0 : Nat) (f : Nat → Option Nat) (k r i : Nat) : gLive (sRD P r0 i0 f) k r i = gLive P k r i := rfl
theorem pI_sLn (P : gP) (r0 i0 : Nat) (l : List Nat) (k r i s : Nat) : pI (sLn P r0 i0 l) k r i s = if k = 2 ∧ r = r0 ∧ i = i0 ∧ s = 1 then nI l.length else pI P k r i s := rfl
theorem pJ_sLn (P : gP) (r0 i0 : Nat) (l : List Nat) (s : Nat) : pJ (sLn P r0 i0 l) s = pJ P s := rfl
theorem pRD_sLn (P : gP) (r0 i0 : Nat) (l : List Nat) (r i j : Nat) : pRD (sLn P r0 i0 l) r i j = pRD P r i j := rfl
theorem pPL_sLn (P : gP) (r0 i0 : Nat) (l : List Nat) (r i j : Nat) : pPL (sLn P r0 i0 l) r i j = if r = r0 ∧ i = i0 then l[j]? else pPL P r i j := rfl
theorem pGL_sLn (P : gP) (r0 i0 : Nat) (l : List Nat) (g : Nat) : pGL (sLn P r0 i0 l) g = pGL P g := rfl
theorem pnR_sLn (P : gP) (r0 i0 : Nat) (l : List Nat)  : pnR (sLn P r0 i0 l) = pnR P := rfl
theorem pnG_sLn (P : gP) (r0 i0 : Nat) (l : List Nat)  : pnG (sLn P r0 i0 l) = pnG P := rfl
theorem pnB_sLn (P : gP) (r0 i0 : Nat) (l : List Nat) (r : Nat) : pnB (sLn P r0 i0 l) r = pnB P r := rfl
theorem pnT_sLn (P : gP) (r0 i0 : Nat) (l : List Nat) (r : Nat) : pnT (sLn P r0 i0 l) r = pnT P r := rfl
theorem pnX_sLn (P : gP) (r0 i0 : Nat) (l : List Nat)  : pnX (sLn P r0 i0 l) = pnX P := rfl
theorem gLive_sLn (P : gP) (r0 i0 : Nat) (l : List Nat) (k r i : Nat) : gLive (sLn P r0 i0 l) k r i = gLive P k r i := rfl
theorem pI_sTr (P : gP) (r0 i0 : Nat) (l : List Nat) (k r i s : Nat) : pI (sTr P r0 i0 l) k r i s = if k = 5 ∧ r = r0 ∧ i = i0 ∧ s = 2 then nI l.length else pI P k r i s := rfl
theorem pJ_sTr (P : gP) (r0 i0 : Nat) (l : List Nat) (s : Nat) : pJ (sTr P r0 i0 l) s = pJ P s := rfl
theorem pRD_sTr (P : gP) (r0 i0 : Nat) (l : List Nat) (r i j : Nat) : pRD (sTr P r0 i0 l) r i j = if r = r0 ∧ i = i0 then l[j]? else pRD P r i j := rfl
theorem pPL_sTr (P : gP) (r0 i0 : Nat) (l : List Nat) (r i j : Nat) : pPL (sTr P r0 i0 l) r i j = pPL P r i j := rfl
theorem pGL_sTr (P : gP) (r0 i0 : Nat) (l : List Nat) (g : Nat) : pGL (sTr P r0 i0 l) g = pGL P g := rfl
theorem pnR_sTr (P : gP) (r0 i0 : Nat) (l : List Nat)  : pnR (sTr P r0 i0 l) = pnR P := rfl
theorem pnG_sTr (P : gP) (r0 i0 : Nat) (l : List Nat)  : pnG (sTr P r0 i0 l) = pnG P := rfl
theorem pnB_sTr (P : gP) (r0 i0 : Nat) (l : List Nat) (r : Nat) : pnB (sTr P r0 i0 l) r = pnB P r := rfl
theorem pnT_sTr (P : gP) (r0 i0 : Nat) (l : List Nat) (r : Nat) : pnT (sTr P r0 i0 l) r = pnT P r := rfl
theorem pnX_sTr (P : gP) (r0 i0 : Nat) (l : List Nat)  : pnX (sTr P r0 i0 l) = pnX P := rfl
theorem gLive_sTr (P : gP) (r0 i0 : Nat) (l : List Nat) (k r i : Nat) : gLive (sTr P r0 i0 l) k r i = gLive P k r i := rfl
/-- the queue holds this list of guests -/
def Ln (P : gP) (r q : Nat) (l : List Nat) : Prop := pI P 2 r q 1 = nI l.length ∧ (∀ j, pPL P r q j = l[j]?) ∧ l.length ≤ 60 ∧ ∀ g ∈ l, g < pnG P
/-- the train holds this list of riders -/
def Tr (P : gP) (r i : Nat) (l : List Nat) : Prop := pI P 5 r i 2 = nI l.length ∧ (∀ j, pRD P r i j = l[j]?) ∧ l.length ≤ 8 ∧ ∀ g ∈ l, g < pnG P
theorem uI_id {P : gP} {k r i s : Nat} {v : Int32} (h : pI P k r i s = v) : uI P k r i s v = P := by
  subst h
  obtain ⟨P1, P2⟩ := P
  unfold uI pI
  congr 1
  funext k' r' i' s'
  dsimp only
  split
  next hh => obtain ⟨rfl, rfl, rfl, rfl⟩ := hh; rfl
  next => rfl
theorem sPL_id {P : gP} {r q : Nat} {f : Nat → Option Nat} (h : ∀ j, pPL P r q j = f j) : sPL P r q f = P := by
  obtain ⟨P1, P2, P3, P4, P5⟩ := P
  unfold sPL
  dsimp only
  congr 4
  funext r' i' j'
  split
  next hh => obtain ⟨rfl, rfl⟩ := hh; exact (h j').symm
  next => rfl
theorem sRD_id {P : gP} {r q : Nat} {f : Nat → Option Nat} (h : ∀ j, pRD P r q j = f j) : sRD P r q f = P := by
  obtain ⟨P1, P2, P3, P4⟩ := P
  unfold sRD
  dsimp only
  congr 3
  funext r' i' j'
  split
  next hh => obtain ⟨rfl, rfl⟩ := hh; exact (h j').symm
  next => rfl
theorem sLn_id {P : gP} {r q : Nat} {l : List Nat} (h : Ln P r q l) : sLn P r q l = P := by
  unfold sLn
  rw [uI_id h.1]
  exact sPL_id h.2.1
theorem uPL_sPL {P : gP} {r q j : Nat} {f : Nat → Option Nat} {v : Option Nat} : uPL (sPL P r q f) r q j v = sPL P r q (fun j' => if j' = j then v else f j') := by
  unfold uPL sPL
  dsimp only
  congr 4
  funext r' i' j'
  by_cases h1 : r' = r ∧ i' = q
  · by_cases h2 : j' = j <;> simp [h1, h2]
  · rw [if_neg (fun hh => h1 ⟨hh.1, hh.2.1⟩), if_neg h1, if_neg h1]
theorem uRD_sRD {P : gP} {r q j : Nat} {f : Nat → Option Nat} {v : Option Nat} : uRD (sRD P r q f) r q j v = sRD P r q (fun j' => if j' = j then v else f j') := by
  unfold uRD sRD
  dsimp only
  congr 3
  funext r' i' j'
  by_cases h1 : r' = r ∧ i' = q
  · by_cases h2 : j' = j <;> simp [h1, h2]
  · rw [if_neg (fun hh => h1 ⟨hh.1, hh.2.1⟩), if_neg h1, if_neg h1]
theorem uPL_self {P : gP} {r q j : Nat} {v : Option Nat} : uPL P r q j v = sPL P r q (fun j' => if j' = j then v else pPL P r q j') := by
  rw [← uPL_sPL, sPL_id (fun _ => rfl)]
theorem uRD_self {P : gP} {r q j : Nat} {v : Option Nat} : uRD P r q j v = sRD P r q (fun j' => if j' = j then v else pRD P r q j') := by
  rw [← uRD_sRD, sRD_id (fun _ => rfl)]
theorem uI_sPL {P : gP} {r q k0 r0 i0 s0 : Nat} {v : Int32} {f : Nat → Option Nat} : uI (sPL P r q f) k0 r0 i0 s0 v = sPL (uI P k0 r0 i0 s0 v) r q f := rfl
theorem uI_sRD {P : gP} {r q k0 r0 i0 s0 : Nat} {v : Int32} {f : Nat → Option Nat} : uI (sRD P r q f) k0 r0 i0 s0 v = sRD (uI P k0 r0 i0 s0 v) r q f := rfl
theorem uPL_uI {P : gP} {r q j k0 r0 i0 s0 : Nat} {v : Int32} {w : Option Nat} : uPL (uI P k0 r0 i0 s0 v) r q j w = uI (uPL P r q j w) k0 r0 i0 s0 v := rfl
theorem Ln.at {P : gP} {r q : Nat} {l : List Nat} (h : Ln P r q l) {j : Nat} (hj : j < l.length) : pPL P r q j = some l[j] := by rw [h.2.1, List.getElem?_eq_getElem hj]
theorem Ln.mem {P : gP} {r q : Nat} {l : List Nat} (h : Ln P r q l) {j g : Nat} (hj : pPL P r q j = some g) : g < pnG P := h.2.2.2 g (List.mem_of_getElem? ((h.2.1 j).symm.trans hj))
theorem Ln.lt {P : gP} {r q : Nat} {l : List Nat} (h : Ln P r q l) {j : Nat} : (nI j < pI P 2 r q 1 ↔ j < l.length) ∨ 2 ^ 31 ≤ j := by
  rcases Nat.lt_or_ge j (2 ^ 31) with hj | hj
  · rw [h.1]; exact Or.inl (nI_ltI hj (by have := h.2.2.1; omega))
  · exact Or.inr hj
def fWith (P : gP) (g o : Nat) : Bool := decide (g = o) || (decide (¬ pI P 1 g 0 2 = 0) && decide (pI P 1 g 0 2 = pI P 1 o 0 2))
set_option maxHeartbeats 4000000 in
set_option maxRecDepth 100000 in
theorem c_X1_comesWith {Z : gEnv} {ad : gAd} {P : gP} {h : gH} (G : gG Z) (hR : gRep Z ad P h) {g : Nat} (hl : gLive P 1 g 0) {o : Nat} (ho : gLive P 1 o 0) : gMet Z yX1_comesWith cX1_comesWith 2 ((Option.some FieldType.boolean)) 1 0 0 [.ref (ad 1 g 0), .ref (ad 1 o 0)] h (qI h (fun x => x = if fWith P g o then 1 else 0)) (qN) := by
  refine g_enter (lv := [(0, .ref (ad 1 g 0)), (1, .ref (ad 1 o 0))]) G.2 (by decide +kernel) (Nat.le_of_ble_eq_true rfl) rfl (fun Γ X Nt E RM => ?_)
  refine g_aload_n X dX1_comesWith_0 rfl ?_
  refine g_aload_n X dX1_comesWith_1 rfl ?_
  refine g_acmp_eq 23 X dX1_comesWith_2 (by decide) (fun c2 => ?_) (fun c2 => ?_)
  · skip
    refine g_iconst (v := 1) X dX1_comesWith_23 (by decide) ?_
    refine g_goto 28 X dX1_comesWith_24 (by decide) ?_
    refine g_ireturn X E (by decide) dX1_comesWith_28 (by decide) (by decide) ?_
    have hgo : ad 1 g 0 = ad 1 o 0 ↔ g = o := ⟨fun e => (hR.2 _ _ _ _ _ _ hl ho e).2.1, fun e => by rw [e]⟩
    refine ⟨_, rfl, ?_, rfl⟩
    subst_vars
    simp_all [fWith]
  · skip
    refine g_aload_n X dX1_comesWith_5 rfl ?_
    refine gp_geti (j := 2) X hR hl cl_X1 lk_X1_25 rfl (by decide) rfl rfl dX1_comesWith_6 (fun x6 e6 => ?_)
    refine g_if_eq 27 X dX1_comesWith_9 (by decide) (fun c9 => ?_) (fun c9 => ?_)
    · skip
      refine g_iconst (v := 0) X dX1_comesWith_27 (by decide) ?_
      refine g_ireturn X E (by decide) dX1_comesWith_28 (by decide) (by decide) ?_
      have hgo : ad 1 g 0 = ad 1 o 0 ↔ g = o := ⟨fun e => (hR.2 _ _ _ _ _ _ hl ho e).2.1, fun e => by rw [e]⟩
      refine ⟨_, rfl, ?_, rfl⟩
      subst_vars
      simp_all [fWith]
    · skip
      refine g_aload_n X dX1_comesWith_12 rfl ?_
      refine gp_geti (j := 2) X hR hl cl_X1 lk_X1_25 rfl (by decide) rfl rfl dX1_comesWith_13 (fun x13 e13 => ?_)
      refine g_aload_n X dX1_comesWith_16 rfl ?_
      refine gp_geti (j := 2) X hR ho cl_X1 lk_X1_25 rfl (by decide) rfl rfl dX1_comesWith_17 (fun x17 e17 => ?_)
      refine g_icmp_ne 27 X dX1_comesWith_20 (by decide) (fun c20 => ?_) (fun c20 => ?_)
      · skip
        refine g_iconst (v := 0) X dX1_comesWith_27 (by decide) ?_
        refine g_ireturn X E (by decide) dX1_comesWith_28 (by decide) (by decide) ?_
        have hgo : ad 1 g 0 = ad 1 o 0 ↔ g = o := ⟨fun e => (hR.2 _ _ _ _ _ _ hl ho e).2.1, fun e => by rw [e]⟩
        refine ⟨_, rfl, ?_, rfl⟩
        subst_vars
        simp_all [fWith]
      · skip
        refine g_iconst (v := 1) X dX1_comesWith_23 (by decide) ?_
        refine g_goto 28 X dX1_comesWith_24 (by decide) ?_
        refine g_ireturn X E (by decide) dX1_comesWith_28 (by decide) (by decide) ?_
        have hgo : ad 1 g 0 = ad 1 o 0 ↔ g = o := ⟨fun e => (hR.2 _ _ _ _ _ _ hl ho e).2.1, fun e => by rw [e]⟩
        refine ⟨_, rfl, ?_, rfl⟩
        subst_vars
        simp_all [fWith]
set_option maxHeartbeats 4000000 in
set_option maxRecDepth 100000 in
theorem c_X2_partyOf {Z : gEnv} {ad : gAd} {P : gP} {h : gH} (G : gG Z) (hR : gRep Z ad P h) {r q : Nat} (hl : gLive P 2 r q) {l : List Nat} (hL : Ln P r q l) {o : Nat} (ho : gLive P 1 o 0) : gMet Z yX2_partyOf cX2_partyOf 5 ((Option.some FieldType.int)) 2 0 0 [.ref (ad 2 r q), .ref (ad 1 o 0)] h (qI h (fun _ => True)) (qN) := by
  refine g_enter (lv := [(0, .ref (ad 2 r q)), (1, .ref (ad 1 o 0))]) G.2 (by decide +kernel) (Nat.le_of_ble_eq_true rfl) rfl (fun Γ X Nt E RM => ?_)
  have L : ∀ (m : Nat) (k : Nat) (x2 x3 : Int32) (hm : m + k = 60) (h3 : x3 = nI k), GJ Z Γ h 0 0 4 [(3, .int x3), (2, .int x2), (1, .ref (ad 1 o 0)), (0, .ref (ad 2 r q))] [] := by
    intro m
    induction m with
    | zero =>
      intro k x2 x3 hm h3
      refine g_iload_n X dX2_partyOf_4 rfl ?_
      refine g_aload_n X dX2_partyOf_5 rfl ?_
      refine gp_geti (j := 1) X hR hl cl_X2 lk_X2_17 rfl (by decide) rfl rfl dX2_partyOf_6 (fun x6 e6 => ?_)
      refine g_icmp_ge 52 X dX2_partyOf_9 (by decide) (fun c9 => ?_) (fun c9 => ?_)
      · skip
        refine g_iload_n X dX2_partyOf_52 rfl ?_
        refine g_ireturn X E rfl dX2_partyOf_53 (by decide) (by decide) ?_
        exact ⟨_, rfl, trivial, rfl⟩
      · skip
        refine g_iload_n X dX2_partyOf_12 rfl ?_
        refine g_aload_n X dX2_partyOf_13 rfl ?_
        refine gp_get (j := 0) (v := .ref (ad 13 r q)) X hR hl cl_X2 lk_X2_11 rfl (by decide) rfl rfl dX2_partyOf_14 ?_
        refine gp_alen (v := 60) X hR hl G.t2 rfl rfl dX2_partyOf_17 ?_
        refine g_icmp_ge 52 X dX2_partyOf_18 (by decide) (fun c18 => ?_) (fun c18 => ?_)
        · skip
          refine g_iload_n X dX2_partyOf_52 rfl ?_
          refine g_ireturn X E rfl dX2_partyOf_53 (by decide) (by decide) ?_
          exact ⟨_, rfl, trivial, rfl⟩
        · skip
          exact absurd c18 (by rw [h3]; exact nI_nlt (b := 60) (by omega) (by omega))
    | succ m ih =>
      intro k x2 x3 hm h3
      refine g_iload_n X dX2_partyOf_4 rfl ?_
      refine g_aload_n X dX2_partyOf_5 rfl ?_
      refine gp_geti (j := 1) X hR hl cl_X2 lk_X2_17 rfl (by decide) rfl rfl dX2_partyOf_6 (fun x6 e6 => ?_)
      refine g_icmp_ge 52 X dX2_partyOf_9 (by decide) (fun c9 => ?_) (fun c9 => ?_)
      · skip
        refine g_iload_n X dX2_partyOf_52 rfl ?_
        refine g_ireturn X E rfl dX2_partyOf_53 (by decide) (by decide) ?_
        exact ⟨_, rfl, trivial, rfl⟩
      · skip
        refine g_iload_n X dX2_partyOf_12 rfl ?_
        refine g_aload_n X dX2_partyOf_13 rfl ?_
        refine gp_get (j := 0) (v := .ref (ad 13 r q)) X hR hl cl_X2 lk_X2_11 rfl (by decide) rfl rfl dX2_partyOf_14 ?_
        refine gp_alen (v := 60) X hR hl G.t2 rfl rfl dX2_partyOf_17 ?_
        refine g_icmp_ge 52 X dX2_partyOf_18 (by decide) (fun c18 => ?_) (fun c18 => ?_)
        · skip
          refine g_iload_n X dX2_partyOf_52 rfl ?_
          refine g_ireturn X E rfl dX2_partyOf_53 (by decide) (by decide) ?_
          exact ⟨_, rfl, trivial, rfl⟩
        · skip
          refine g_aload_n X dX2_partyOf_21 rfl ?_
          refine gp_get (j := 0) (v := .ref (ad 13 r q)) X hR hl cl_X2 lk_X2_11 rfl (by decide) rfl rfl dX2_partyOf_22 ?_
          refine g_iload_n X dX2_partyOf_25 rfl ?_
          refine gp_aald_map (j := k) X hR hl G.t2 rfl h3 (by omega) (by decide) dX2_partyOf_26 (fun g26 h26 => ?_) (fun h26 => ?_)
          · skip
            have hl26 : gLive P 1 g26 0 := ⟨hL.mem h26, rfl⟩
            refine g_astore (lv' := [(4, .ref (ad 1 g26 0)), (3, .int x3), (2, .int x2), (1, .ref (ad 1 o 0)), (0, .ref (ad 2 r q))]) X dX2_partyOf_27 (by decide) rfl ?_
            refine g_aload X dX2_partyOf_29 rfl ?_
            refine g_ifnull X dX2_partyOf_31 ?_
            refine g_aload X dX2_partyOf_34 rfl ?_
            refine g_aload_n X dX2_partyOf_36 rfl ?_
            refine gp_V X RM lm_X2_21 (c_X1_comesWith G hR hl26 ho) cl_X1 hR hl26 rfl rfl rfl (by decide) (by decide) (by decide) dX2_partyOf_37 (fun v h1 q => ?_) (fun _ _ q => q.elim)
            obtain ⟨x37, rfl, e37, rfl⟩ := q
            refine GJ.seq (st' := [.int x37]) rfl ?_
            refine g_if_eq 46 X dX2_partyOf_40 (by decide) (fun c40 => ?_) (fun c40 => ?_)
            · skip
              refine gp_iinc 1 X dX2_partyOf_46 rfl (by decide) (fun x46 e46 => ?_)
              refine GJ.leq (lv' := [(3, .int x46), (4, .ref (ad 1 g26 0)), (2, .int x2), (1, .ref (ad 1 o 0)), (0, .ref (ad 2 r q))]) rfl ?_
              refine g_goto 4 X dX2_partyOf_49 (by decide) ?_
              refine GJ.pick [0, 2, 3, 4] rfl ?_
              exact ih (k + 1) x2 x46 (by omega) (by rw [e46, h3]; exact nI_1 k)
            · skip
              refine gp_iinc 2 X dX2_partyOf_43 rfl (by decide) (fun x43 e43 => ?_)
              refine GJ.leq (lv' := [(2, .int x43), (4, .ref (ad 1 g26 0)), (3, .int x3), (1, .ref (ad 1 o 0)), (0, .ref (ad 2 r q))]) rfl ?_
              refine gp_iinc 2 X dX2_partyOf_46 rfl (by decide) (fun x46 e46 => ?_)
              refine GJ.leq (lv' := [(3, .int x46), (2, .int x43), (4, .ref (ad 1 g26 0)), (1, .ref (ad 1 o 0)), (0, .ref (ad 2 r q))]) rfl ?_
              refine g_goto 4 X dX2_partyOf_49 (by decide) ?_
              refine GJ.pick [0, 1, 3, 4] rfl ?_
              exact ih (k + 1) x43 x46 (by omega) (by rw [e46, h3]; exact nI_1 k)
          · skip
            refine g_astoreN (lv' := [(4, .null), (3, .int x3), (2, .int x2), (1, .ref (ad 1 o 0)), (0, .ref (ad 2 r q))]) X dX2_partyOf_27 (by decide) rfl ?_
            refine g_aloadN X dX2_partyOf_29 rfl ?_
            refine g_ifnullN 46 X dX2_partyOf_31 (by decide) ?_
            refine gp_iinc 1 X dX2_partyOf_46 rfl (by decide) (fun x46 e46 => ?_)
            refine GJ.leq (lv' := [(3, .int x46), (4, .null), (2, .int x2), (1, .ref (ad 1 o 0)), (0, .ref (ad 2 r q))]) rfl ?_
            refine g_goto 4 X dX2_partyOf_49 (by decide) ?_
            refine GJ.pick [0, 2, 3, 4] rfl ?_
            exact ih (k + 1) x2 x46 (by omega) (by rw [e46, h3]; exact nI_1 k)
  refine g_iconst (v := 0) X dX2_partyOf_0 (by decide) ?_
  refine g_istore_n (lv' := [(2, .int 0), (0, .ref (ad 2 r q)), (1, .ref (ad 1 o 0))]) X dX2_partyOf_1 (by decide) rfl ?_
  refine g_iconst (v := 0) X dX2_partyOf_2 (by decide) ?_
  refine g_istore_n (lv' := [(3, .int 0), (2, .int 0), (0, .ref (ad 2 r q)), (1, .ref (ad 1 o 0))]) X dX2_partyOf_3 (by decide) rfl ?_
  refine GJ.pick [0, 1, 3, 2] rfl ?_
  exact L 60 0 0 0 rfl rfl
theorem nI_sub1 {n : Nat} (h : 0 < n) : nI n - 1 = nI (n - 1) := by
  obtain ⟨m, rfl⟩ : ∃ m, n = m + 1 := ⟨n - 1, by omega⟩
  rw [nI_pred]
  rfl
theorem er_idx : ∀ (l : List Nat) (k o : Nat), l[k]? = some o → (∀ j, j < k → l[j]? ≠ some o) → l.erase o = l.eraseIdx k
  | [], k, o, h, _ => by simp at h
  | a :: t, 0, o, h, _ => by
    simp at h
    subst h
    simp
  | a :: t, k + 1, o, h, h2 => by
    have ha : a ≠ o := fun e => h2 0 (Nat.succ_pos k) (by rw [e]; rfl)
    rw [List.erase_cons_tail (by simpa using ha), List.eraseIdx_cons_succ, er_idx t k o (by simpa using h) (fun j hj => by have := h2 (j + 1) (by omega); simpa using this)]
theorem er_not {l : List Nat} {k o : Nat} (h : l.length ≤ k) (h2 : ∀ j, j < k → l[j]? ≠ some o) : l.erase o = l := by
  refine List.erase_of_not_mem (fun hm => ?_)
  obtain ⟨j, hj⟩ := List.getElem?_of_mem hm
  exact h2 j (Nat.lt_of_lt_of_le (List.getElem?_eq_some_iff.mp hj).1 h) hj
theorem idx_end {l f : List Nat} {i t : Nat} (hi : i < l.length) (hm : i + t + 1 = l.length) {F : Nat → Option Nat} (hf : ∀ j, F j = if i ≤ j ∧ j < i + t then l[j + 1]? else l[j]?) : (fun j => if j = l.length - 1 then none else F j) = fun j => (l.eraseIdx i)[j]? := by
  funext j
  rw [List.getElem?_eraseIdx]
  by_cases h1 : j = l.length - 1
  · rw [if_pos h1]
    have h3 : l[j + 1]? = none := List.getElem?_eq_none (by omega)
    by_cases h2 : j < i
    · omega
    · rw [if_neg h2, h3]
  · rw [if_neg h1, hf j]
    by_cases h2 : j < i
    · rw [if_neg (by omega), if_pos h2]
    · rw [if_neg h2]
      by_cases h4 : j < i + t
      · rw [if_pos ⟨by omega, h4⟩]
      · rw [if_neg (by omega), List.getElem?_eq_none (show l.length ≤ j by omega), List.getElem?_eq_none (show l.length ≤ j + 1 by omega)]
set_option maxHeartbeats 4000000 in
set_option maxRecDepth 100000 in
theorem c_X2_takeAt {Z : gEnv} {ad : gAd} {P : gP} {h : gH} (G : gG Z) (hR : gRep Z ad P h) {r q : Nat} (hl : gLive P 2 r q) {l : List Nat} (hL : Ln P r q l) {x : Int32} {i : Nat} (hx : x = nI i) (hi : i < l.length) : gMet Z yX2_takeAt cX2_takeAt 3 ((Option.none : Option FieldType)) 1 0 0 [.ref (ad 2 r q), .int x] h (qM (fun h2 => ∃ P2, gRep Z ad P2 h2 ∧ P2 = sLn P r q (l.eraseIdx i))) (qN) := by
  refine g_enter (lv := [(0, .ref (ad 2 r q)), (1, .int x)]) G.2 (by decide +kernel) (Nat.le_of_ble_eq_true rfl) rfl (fun Γ X Nt E RM => ?_)
  have L : ∀ (m : Nat) (t : Nat) (x2 : Int32) (f : Nat → Option Nat) (h : gH) (hR : gRep Z ad (sPL P r q f) h) (hm : m + (i + t) + 1 = l.length) (h2 : x2 = nI (i + t)) (hf : ∀ j, f j = if i ≤ j ∧ j < i + t then l[j + 1]? else l[j]?), GJ Z Γ h 0 0 27 [(2, .int x2), (1, .int x), (0, .ref (ad 2 r q))] [] := by
    intro m
    induction m with
    | zero =>
      intro t x2 f h hR hm h2 hf
      refine g_iload_n X dX2_takeAt_27 rfl ?_
      refine g_iconst (v := 1) X dX2_takeAt_28 (by decide) ?_
      refine g_iadd X dX2_takeAt_29 (fun x29 e29 => ?_)
      refine g_aload_n X dX2_takeAt_30 rfl ?_
      refine gp_geti (j := 1) X hR hl cl_X2 lk_X2_17 rfl (by decide) rfl rfl dX2_takeAt_31 (fun x31 e31 => ?_)
      refine g_icmp_ge 57 X dX2_takeAt_34 (by decide) (fun c34 => ?_) (fun c34 => ?_)
      · skip
        refine g_aload_n X dX2_takeAt_57 rfl ?_
        refine g_dup X dX2_takeAt_58 rfl ?_
        refine gp_geti (j := 1) X hR hl cl_X2 lk_X2_17 rfl (by decide) rfl rfl dX2_takeAt_59 (fun x59 e59 => ?_)
        refine g_iconst (v := 1) X dX2_takeAt_62 (by decide) ?_
        refine g_isub X dX2_takeAt_63 (fun x63 e63 => ?_)
        refine gp_puti (j := 1) X hR hl cl_X2 lk_X2_17 rfl (by decide) rfl (by decide) rfl rfl rfl dX2_takeAt_64 (fun h hR => ?_)
        refine g_aload_n X dX2_takeAt_67 rfl ?_
        refine gp_get (j := 0) (v := .ref (ad 13 r q)) X hR hl cl_X2 lk_X2_11 rfl (by decide) rfl rfl dX2_takeAt_68 ?_
        refine g_aload_n X dX2_takeAt_71 rfl ?_
        refine gp_geti (j := 1) X hR hl cl_X2 lk_X2_17 rfl (by decide) rfl rfl dX2_takeAt_72 (fun x72 e72 => ?_)
        refine g_null X dX2_takeAt_75 ?_
        refine gp_astPL (v := none) (j := (l.length - 1)) X G hR hl rfl (fun _ hh => by cases hh) (by rw [e72, pI_uI, if_pos ⟨rfl, rfl, rfl, rfl⟩, e63, e59, pI_sPL, hL.1]; exact nI_sub1 (by omega)) (by have := hL.2.2.1; omega) dX2_takeAt_76 (fun h hR => ?_)
        refine g_return X E dX2_takeAt_77 (by decide) (by decide) ?_
        refine ⟨rfl, _, hR, ?_⟩
        have hx63 : x63 = nI (l.eraseIdx i).length := by rw [e63, e59, pI_sPL, hL.1, List.length_eraseIdx_of_lt hi]; exact nI_sub1 (by omega)
        rw [uI_sPL, uPL_sPL, idx_end (f := []) hi (by omega) hf, hx63]
        rfl
      · skip
        exact absurd c34 (by rw [(show x31 = nI l.length from e31.trans hL.1), e29, h2, nI_1]; exact nI_nlt (by omega) (by have := hL.2.2.1; omega))
    | succ m ih =>
      intro t x2 f h hR hm h2 hf
      refine g_iload_n X dX2_takeAt_27 rfl ?_
      refine g_iconst (v := 1) X dX2_takeAt_28 (by decide) ?_
      refine g_iadd X dX2_takeAt_29 (fun x29 e29 => ?_)
      refine g_aload_n X dX2_takeAt_30 rfl ?_
      refine gp_geti (j := 1) X hR hl cl_X2 lk_X2_17 rfl (by decide) rfl rfl dX2_takeAt_31 (fun x31 e31 => ?_)
      refine g_icmp_ge 57 X dX2_takeAt_34 (by decide) (fun c34 => ?_) (fun c34 => ?_)
      · skip
        exact absurd (by rw [(show x31 = nI l.length from e31.trans hL.1), e29, h2, nI_1]; exact nI_lt (by omega) (by have := hL.2.2.1; omega)) c34
      · skip
        refine g_aload_n X dX2_takeAt_37 rfl ?_
        refine gp_get (j := 0) (v := .ref (ad 13 r q)) X hR hl cl_X2 lk_X2_11 rfl (by decide) rfl rfl dX2_takeAt_38 ?_
        refine g_iload_n X dX2_takeAt_41 rfl ?_
        refine g_aload_n X dX2_takeAt_42 rfl ?_
        refine gp_get (j := 0) (v := .ref (ad 13 r q)) X hR hl cl_X2 lk_X2_11 rfl (by decide) rfl rfl dX2_takeAt_43 ?_
        refine g_iload_n X dX2_takeAt_46 rfl ?_
        refine g_iconst (v := 1) X dX2_takeAt_47 (by decide) ?_
        refine g_iadd X dX2_takeAt_48 (fun x48 e48 => ?_)
        refine gp_aald_map (j := (i + t + 1)) X hR hl G.t2 rfl (by rw [e48, h2]; exact nI_1 _) (by have := hL.2.2.1; omega) (by decide) dX2_takeAt_49 (fun g49 h49 => ?_) (fun h49 => ?_)
        · skip
          have hl49 : gLive (sPL P r q f) 1 g49 0 := ⟨hL.2.2.2 _ (List.mem_of_getElem? (i := i + t + 1) (by rw [pPL_sPL, if_pos ⟨rfl, rfl⟩, hf, if_neg (by omega)] at h49; exact h49)), rfl⟩
          refine gp_astPL (v := (some g49)) (j := (i + t)) X G hR hl rfl (fun _ hh => by cases hh; exact hl49) h2 (by have := hL.2.2.1; omega) dX2_takeAt_50 (fun h hR => ?_)
          refine gp_iinc 0 X dX2_takeAt_51 rfl (by decide) (fun x51 e51 => ?_)
          refine GJ.leq (lv' := [(2, .int x51), (1, .int x), (0, .ref (ad 2 r q))]) rfl ?_
          refine g_goto 27 X dX2_takeAt_54 (by decide) ?_
          rw [pPL_sPL, if_pos ⟨rfl, rfl⟩, hf, if_neg (by omega)] at h49
          exact ih (t + 1) x51 (fun j' => if j' = i + t then some g49 else f j') h (by rw [← uPL_sPL]; exact hR) (by omega) (by rw [e51, h2]; exact nI_1 _) (fun j => by
            by_cases hj : j = i + t
            · subst hj; rw [if_pos rfl, if_pos ⟨by omega, by omega⟩, h49]
            · rw [if_neg hj, hf j]
              by_cases h8 : i ≤ j ∧ j < i + t
              · rw [if_pos h8, if_pos ⟨h8.1, by omega⟩]
              · rw [if_neg h8, if_neg (by omega)])
        · skip
          exact absurd h49 (by rw [pPL_sPL, if_pos ⟨rfl, rfl⟩, hf, if_neg (by omega), List.getElem?_eq_getElem (show i + t + 1 < l.length by omega)]; exact fun hh => by cases hh)
  refine g_iload_n X dX2_takeAt_0 rfl ?_
  refine g_if_lt 24 X dX2_takeAt_1 (by decide) (fun c1 => ?_) (fun c1 => ?_)
  · skip
    exact absurd c1 (by rw [hx]; exact nI_pos (by have := hL.2.2.1; omega))
  · skip
    refine g_aload_n X dX2_takeAt_4 rfl ?_
    refine gp_geti (j := 1) X hR hl cl_X2 lk_X2_17 rfl (by decide) rfl rfl dX2_takeAt_5 (fun x5 e5 => ?_)
    refine g_iconst (v := 1) X dX2_takeAt_8 (by decide) ?_
    refine g_icmp_lt 24 X dX2_takeAt_9 (by decide) (fun c9 => ?_) (fun c9 => ?_)
    · skip
      exact absurd c9 (by rw [e5, hL.1]; exact nI_nlt (a := l.length) (b := 1) (by omega) (by have := hL.2.2.1; omega))
    · skip
      refine g_aload_n X dX2_takeAt_12 rfl ?_
      refine gp_geti (j := 1) X hR hl cl_X2 lk_X2_17 rfl (by decide) rfl rfl dX2_takeAt_13 (fun x13 e13 => ?_)
      refine g_aload_n X dX2_takeAt_16 rfl ?_
      refine gp_get (j := 0) (v := .ref (ad 13 r q)) X hR hl cl_X2 lk_X2_11 rfl (by decide) rfl rfl dX2_takeAt_17 ?_
      refine gp_alen (v := 60) X hR hl G.t2 rfl rfl dX2_takeAt_20 ?_
      refine g_icmp_le 25 X dX2_takeAt_21 (by decide) (fun c21 => ?_) (fun c21 => ?_)
      · skip
        refine g_iload_n X dX2_takeAt_25 rfl ?_
        refine g_istore_n (lv' := [(2, .int x), (0, .ref (ad 2 r q)), (1, .int x)]) X dX2_takeAt_26 (by decide) rfl ?_
        refine GJ.pick [0, 2, 1] rfl ?_
        exact L (l.length - i - 1) 0 x (fun j => l[j]?) h (by rw [sPL_id hL.2.1]; exact hR) (by omega) hx (fun j => by rw [if_neg (by omega)])
      · skip
        exact absurd c21 (by rw [e13, hL.1]; exact nI_nlt (a := 60) (b := l.length) hL.2.2.1 (by decide))
set_option maxHeartbeats 4000000 in
set_option maxRecDepth 100000 in
theorem c_X2_takeOut {Z : gEnv} {ad : gAd} {P : gP} {h : gH} (G : gG Z) (hR : gRep Z ad P h) {r q : Nat} (hl : gLive P 2 r q) {l : List Nat} (hL : Ln P r q l) {o : Nat} (ho : gLive P 1 o 0) : gMet Z yX2_takeOut cX2_takeOut 3 ((Option.none : Option FieldType)) 2 0 0 [.ref (ad 2 r q), .ref (ad 1 o 0)] h (qM (fun h2 => ∃ P2, gRep Z ad P2 h2 ∧ P2 = sLn P r q (l.erase o))) (qN) := by
  refine g_enter (lv := [(0, .ref (ad 2 r q)), (1, .ref (ad 1 o 0))]) G.2 (by decide +kernel) (Nat.le_of_ble_eq_true rfl) rfl (fun Γ X Nt E RM => ?_)
  have L : ∀ (m : Nat) (k : Nat) (x2 : Int32) (hm : m + k = 60) (h2 : x2 = nI k) (hk : ∀ j, j < k → l[j]? ≠ some o), GJ Z Γ h 0 0 2 [(2, .int x2), (1, .ref (ad 1 o 0)), (0, .ref (ad 2 r q))] [] := by
    intro m
    induction m with
    | zero =>
      intro k x2 hm h2 hk
      refine g_iload_n X dX2_takeOut_2 rfl ?_
      refine g_aload_n X dX2_takeOut_3 rfl ?_
      refine gp_geti (j := 1) X hR hl cl_X2 lk_X2_17 rfl (by decide) rfl rfl dX2_takeOut_4 (fun x4 e4 => ?_)
      refine g_icmp_ge 41 X dX2_takeOut_7 (by decide) (fun c7 => ?_) (fun c7 => ?_)
      · skip
        refine g_return X E dX2_takeOut_41 (by decide) (by decide) ?_
        refine ⟨rfl, P, hR, ?_⟩
        rw [er_not (k := k) ?_ hk, sLn_id hL]
        rcases Nat.lt_or_ge k l.length with q9 | q9
        · exact absurd (by rw [h2, e4, hL.1]; exact nI_lt q9 (by have := hL.2.2.1; omega)) c7
        · exact q9
      · skip
        refine g_iload_n X dX2_takeOut_10 rfl ?_
        refine g_aload_n X dX2_takeOut_11 rfl ?_
        refine gp_get (j := 0) (v := .ref (ad 13 r q)) X hR hl cl_X2 lk_X2_11 rfl (by decide) rfl rfl dX2_takeOut_12 ?_
        refine gp_alen (v := 60) X hR hl G.t2 rfl rfl dX2_takeOut_15 ?_
        refine g_icmp_ge 41 X dX2_takeOut_16 (by decide) (fun c16 => ?_) (fun c16 => ?_)
        · skip
          refine absurd c7 ?_
          rw [h2, e4, hL.1]
          exact nI_nlt (by have := hL.2.2.1; omega) (by omega)
        · skip
          exact absurd c16 (by rw [h2]; exact nI_nlt (b := 60) (by omega) (by omega))
    | succ m ih =>
      intro k x2 hm h2 hk
      have hR0 := hR
      refine g_iload_n X dX2_takeOut_2 rfl ?_
      refine g_aload_n X dX2_takeOut_3 rfl ?_
      refine gp_geti (j := 1) X hR hl cl_X2 lk_X2_17 rfl (by decide) rfl rfl dX2_takeOut_4 (fun x4 e4 => ?_)
      refine g_icmp_ge 41 X dX2_takeOut_7 (by decide) (fun c7 => ?_) (fun c7 => ?_)
      · skip
        refine g_return X E dX2_takeOut_41 (by decide) (by decide) ?_
        refine ⟨rfl, P, hR, ?_⟩
        rw [er_not (k := k) ?_ hk, sLn_id hL]
        rcases Nat.lt_or_ge k l.length with q9 | q9
        · exact absurd (by rw [h2, e4, hL.1]; exact nI_lt q9 (by have := hL.2.2.1; omega)) c7
        · exact q9
      · skip
        refine g_iload_n X dX2_takeOut_10 rfl ?_
        refine g_aload_n X dX2_takeOut_11 rfl ?_
        refine gp_get (j := 0) (v := .ref (ad 13 r q)) X hR hl cl_X2 lk_X2_11 rfl (by decide) rfl rfl dX2_takeOut_12 ?_
        refine gp_alen (v := 60) X hR hl G.t2 rfl rfl dX2_takeOut_15 ?_
        refine g_icmp_ge 41 X dX2_takeOut_16 (by decide) (fun c16 => ?_) (fun c16 => ?_)
        · skip
          exact absurd (by rw [h2]; exact nI_lt (b := 60) (by omega) (by omega)) c16
        · skip
          refine g_aload_n X dX2_takeOut_19 rfl ?_
          refine gp_get (j := 0) (v := .ref (ad 13 r q)) X hR hl cl_X2 lk_X2_11 rfl (by decide) rfl rfl dX2_takeOut_20 ?_
          refine g_iload_n X dX2_takeOut_23 rfl ?_
          refine gp_aald_map (j := k) X hR hl G.t2 rfl h2 (by omega) (by decide) dX2_takeOut_24 (fun g24 h24 => ?_) (fun h24 => ?_)
          · skip
            have hl24 : gLive P 1 g24 0 := ⟨hL.mem h24, rfl⟩
            refine g_aload_n X dX2_takeOut_25 rfl ?_
            refine g_acmp_ne 35 X dX2_takeOut_26 (by decide) (fun c26 => ?_) (fun c26 => ?_)
            · skip
              refine gp_iinc 0 X dX2_takeOut_35 rfl (by decide) (fun x35 e35 => ?_)
              refine GJ.leq (lv' := [(2, .int x35), (1, .ref (ad 1 o 0)), (0, .ref (ad 2 r q))]) rfl ?_
              refine g_goto 2 X dX2_takeOut_38 (by decide) ?_
              exact ih (k + 1) x35 (by omega) (by rw [e35, h2]; exact nI_1 k) (fun j hj => by
                rcases Nat.lt_or_ge j k with q9 | q9
                · exact hk j q9
                · have hjk : j = k := by omega
                  subst hjk
                  rw [← hL.2.1, h24]
                  intro e9
                  cases e9
                  exact c26 rfl)
            · skip
              refine g_aload_n X dX2_takeOut_29 rfl ?_
              refine g_iload_n X dX2_takeOut_30 rfl ?_
              refine gp_V X RM lm_X2_25 (c_X2_takeAt G hR hl hL h2 (by rw [h2, e4, hL.1] at c7; exact (nI_ltI (by omega) (by have := hL.2.2.1; omega)).mp c7)) cl_X2 hR hl rfl rfl rfl (by decide) (by decide) (by decide) dX2_takeOut_31 (fun v h1 q => ?_) (fun _ _ q => q.elim)
              obtain ⟨rfl, P31, hR, e31⟩ := q
              refine GJ.seq (st' := []) rfl ?_
              refine g_return X E dX2_takeOut_34 (by decide) (by decide) ?_
              have hg : g24 = o := (hR0.2 _ _ _ _ _ _ hl24 ho c26).2.1
              refine ⟨rfl, _, hR, ?_⟩
              rw [e31, er_idx l k o (by rw [← hL.2.1, h24, hg]) hk]
          · skip
            exact absurd h24 (by rw [hL.at (by rw [h2, e4, hL.1] at c7; exact (nI_ltI (by omega) (by have := hL.2.2.1; omega)).mp c7)]; exact fun hh => by cases hh)
  refine g_iconst (v := 0) X dX2_takeOut_0 (by decide) ?_
  refine g_istore_n (lv' := [(2, .int 0), (0, .ref (ad 2 r q)), (1, .ref (ad 1 o 0))]) X dX2_takeOut_1 (by decide) rfl ?_
  refine GJ.pick [0, 2, 1] rfl ?_
  exact L 60 0 0 rfl rfl (fun j hj => absurd hj (Nat.not_lt_zero j))
theorem ct_step {l : List Nat} {k o g : Nat} (h : l[k]? = some g) : (l.take (k + 1)).count o = (l.take k).count o + if g = o then 1 else 0 := by
  rw [List.take_succ, h, List.count_append]
  simp only [Option.toList_some]
  by_cases hg : g = o <;> simp [hg]
set_option maxHeartbeats 4000000 in
set_option maxRecDepth 100000 in
theorem c_X2_countOf {Z : gEnv} {ad : gAd} {P : gP} {h : gH} (G : gG Z) (hR : gRep Z ad P h) {r q : Nat} (hl : gLive P 2 r q) {l : List Nat} (hL : Ln P r q l) {o : Nat} (ho : gLive P 1 o 0) : gMet Z yX2_countOf cX2_countOf 4 ((Option.some FieldType.int)) 1 0 0 [.ref (ad 2 r q), .ref (ad 1 o 0)] h (qI h (fun x => x = nI (l.count o))) (qN) := by
  refine g_enter (lv := [(0, .ref (ad 2 r q)), (1, .ref (ad 1 o 0))]) G.2 (by decide +kernel) (Nat.le_of_ble_eq_true rfl) rfl (fun Γ X Nt E RM => ?_)
  have L : ∀ (m : Nat) (k : Nat) (x2 x3 : Int32) (hm : m + k = 60) (h3 : x3 = nI k) (h2 : x2 = nI ((l.take k).count o)), GJ Z Γ h 0 0 4 [(3, .int x3), (2, .int x2), (1, .ref (ad 1 o 0)), (0, .ref (ad 2 r q))] [] := by
    intro m
    induction m with
    | zero =>
      intro k x2 x3 hm h3 h2
      refine g_iload_n X dX2_countOf_4 rfl ?_
      refine g_aload_n X dX2_countOf_5 rfl ?_
      refine gp_geti (j := 1) X hR hl cl_X2 lk_X2_17 rfl (by decide) rfl rfl dX2_countOf_6 (fun x6 e6 => ?_)
      refine g_icmp_ge 40 X dX2_countOf_9 (by decide) (fun c9 => ?_) (fun c9 => ?_)
      · skip
        refine g_iload_n X dX2_countOf_40 rfl ?_
        refine g_ireturn X E rfl dX2_countOf_41 (by decide) (by decide) ?_
        refine ⟨_, rfl, ?_, rfl⟩
        rw [h2, List.take_of_length_le ?_]
        rcases Nat.lt_or_ge k l.length with q9 | q9
        · exact absurd (by rw [h3, e6, hL.1]; exact nI_lt q9 (by have := hL.2.2.1; omega)) c9
        · exact q9
      · skip
        refine g_iload_n X dX2_countOf_12 rfl ?_
        refine g_aload_n X dX2_countOf_13 rfl ?_
        refine gp_get (j := 0) (v := .ref (ad 13 r q)) X hR hl cl_X2 lk_X2_11 rfl (by decide) rfl rfl dX2_countOf_14 ?_
        refine gp_alen (v := 60) X hR hl G.t2 rfl rfl dX2_countOf_17 ?_
        refine g_icmp_ge 40 X dX2_countOf_18 (by decide) (fun c18 => ?_) (fun c18 => ?_)
        · skip
          refine absurd c9 ?_
          rw [h3, e6, hL.1]
          exact nI_nlt (by have := hL.2.2.1; omega) (by omega)
        · skip
          exact absurd c18 (by rw [h3]; exact nI_nlt (b := 60) (by omega) (by omega))
    | succ m ih =>
      intro k x2 x3 hm h3 h2
      refine g_iload_n X dX2_countOf_4 rfl ?_
      refine g_aload_n X dX2_countOf_5 rfl ?_
      refine gp_geti (j := 1) X hR hl cl_X2 lk_X2_17 rfl (by decide) rfl rfl dX2_countOf_6 (fun x6 e6 => ?_)
      refine g_icmp_ge 40 X dX2_countOf_9 (by decide) (fun c9 => ?_) (fun c9 => ?_)
      · skip
        refine g_iload_n X dX2_countOf_40 rfl ?_
        refine g_ireturn X E rfl dX2_countOf_41 (by decide) (by decide) ?_
        refine ⟨_, rfl, ?_, rfl⟩
        rw [h2, List.take_of_length_le ?_]
        rcases Nat.lt_or_ge k l.length with q9 | q9
        · exact absurd (by rw [h3, e6, hL.1]; exact nI_lt q9 (by have := hL.2.2.1; omega)) c9
        · exact q9
      · skip
        refine g_iload_n X dX2_countOf_12 rfl ?_
        refine g_aload_n X dX2_countOf_13 rfl ?_
        refine gp_get (j := 0) (v := .ref (ad 13 r q)) X hR hl cl_X2 lk_X2_11 rfl (by decide) rfl rfl dX2_countOf_14 ?_
        refine gp_alen (v := 60) X hR hl G.t2 rfl rfl dX2_countOf_17 ?_
        refine g_icmp_ge 40 X dX2_countOf_18 (by decide) (fun c18 => ?_) (fun c18 => ?_)
        · skip
          exact absurd (by rw [h3]; exact nI_lt (b := 60) (by omega) (by omega)) c18
        · skip
          refine g_aload_n X dX2_countOf_21 rfl ?_
          refine gp_get (j := 0) (v := .ref (ad 13 r q)) X hR hl cl_X2 lk_X2_11 rfl (by decide) rfl rfl dX2_countOf_22 ?_
          refine g_iload_n X dX2_countOf_25 rfl ?_
          refine gp_aald_map (j := k) X hR hl G.t2 rfl h3 (by omega) (by decide) dX2_countOf_26 (fun g26 h26 => ?_) (fun h26 => ?_)
          · skip
            have hl26 : gLive P 1 g26 0 := ⟨hL.mem h26, rfl⟩
            refine g_aload_n X dX2_countOf_27 rfl ?_
            refine g_acmp_ne 34 X dX2_countOf_28 (by decide) (fun c28 => ?_) (fun c28 => ?_)
            · skip
              refine gp_iinc 0 X dX2_countOf_34 rfl (by decide) (fun x34 e34 => ?_)
              refine GJ.leq (lv' := [(3, .int x34), (2, .int x2), (1, .ref (ad 1 o 0)), (0, .ref (ad 2 r q))]) rfl ?_
              refine g_goto 4 X dX2_countOf_37 (by decide) ?_
              have hgo : g26 = o ↔ ad 1 g26 0 = ad 1 o 0 := ⟨fun e => by rw [e], fun e => (hR.2 _ _ _ _ _ _ hl26 ho e).2.1⟩
              have hl9 : l[k]? = some g26 := by rw [← hL.2.1]; exact h26
              exact ih (k + 1) x2 x34 (by omega) (by rw [e34, h3]; exact nI_1 k) (by rw [ct_step hl9, if_neg (fun e => c28 (hgo.mp e)), h2, Nat.add_zero])
            · skip
              refine gp_iinc 1 X dX2_countOf_31 rfl (by decide) (fun x31 e31 => ?_)
              refine GJ.leq (lv' := [(2, .int x31), (3, .int x3), (1, .ref (ad 1 o 0)), (0, .ref (ad 2 r q))]) rfl ?_
              refine gp_iinc 1 X dX2_countOf_34 rfl (by decide) (fun x34 e34 => ?_)
              refine GJ.leq (lv' := [(3, .int x34), (2, .int x31), (1, .ref (ad 1 o 0)), (0, .ref (ad 2 r q))]) rfl ?_
              refine g_goto 4 X dX2_countOf_37 (by decide) ?_
              have hgo : g26 = o ↔ ad 1 g26 0 = ad 1 o 0 := ⟨fun e => by rw [e], fun e => (hR.2 _ _ _ _ _ _ hl26 ho e).2.1⟩
              have hl9 : l[k]? = some g26 := by rw [← hL.2.1]; exact h26
              exact ih (k + 1) x31 x34 (by omega) (by rw [e34, h3]; exact nI_1 k) (by rw [ct_step hl9, if_pos (hgo.mpr c28), e31, h2]; exact nI_1 _)
          · skip
            exact absurd h26 (by rw [hL.at (by rw [h3, e6, hL.1] at c9; exact (nI_ltI (by omega) (by have := hL.2.2.1; omega)).mp c9)]; exact fun hh => by cases hh)
  refine g_iconst (v := 0) X dX2_countOf_0 (by decide) ?_
  refine g_istore_n (lv' := [(2, .int 0), (0, .ref (ad 2 r q)), (1, .ref (ad 1 o 0))]) X dX2_countOf_1 (by decide) rfl ?_
  refine g_iconst (v := 0) X dX2_countOf_2 (by decide) ?_
  refine g_istore_n (lv' := [(3, .int 0), (2, .int 0), (0, .ref (ad 2 r q)), (1, .ref (ad 1 o 0))]) X dX2_countOf_3 (by decide) rfl ?_
  refine GJ.pick [0, 1, 3, 2] rfl ?_
  exact L 60 0 0 0 rfl rfl (by simp; rfl)
set_option maxHeartbeats 4000000 in
set_option maxRecDepth 100000 in
theorem c_X2_takeOneOf {Z : gEnv} {ad : gAd} {P : gP} {h : gH} (G : gG Z) (hR : gRep Z ad P h) {r q : Nat} (hl : gLive P 2 r q) {l : List Nat} (hL : Ln P r q l) {o : Nat} (ho : gLive P 1 o 0) : gMet Z yX2_takeOneOf cX2_takeOneOf 4 ((Option.some (FieldType.object "Coasterland$Guest"))) 2 0 0 [.ref (ad 2 r q), .ref (ad 1 o 0)] h (qRM (fun w h2 => ∃ P2, gRep Z ad P2 h2 ∧ ((w = .null ∧ P2 = P) ∨ (∃ i g, l[i]? = some g ∧ w = .ref (ad 1 g 0) ∧ P2 = sLn P r q (l.eraseIdx i))))) (qN) := by
  refine g_enter (lv := [(0, .ref (ad 2 r q)), (1, .ref (ad 1 o 0))]) G.2 (by decide +kernel) (Nat.le_of_ble_eq_true rfl) rfl (fun Γ X Nt E RM => ?_)
  have L : ∀ (m : Nat) (k : Nat) (x2 : Int32) (hm : m + k = 60) (h2 : x2 = nI k), GJ Z Γ h 0 0 2 [(2, .int x2), (1, .ref (ad 1 o 0)), (0, .ref (ad 2 r q))] [] := by
    intro m
    induction m with
    | zero =>
      intro k x2 hm h2
      refine g_iload_n X dX2_takeOneOf_2 rfl ?_
      refine g_aload_n X dX2_takeOneOf_3 rfl ?_
      refine gp_geti (j := 1) X hR hl cl_X2 lk_X2_17 rfl (by decide) rfl rfl dX2_takeOneOf_4 (fun x4 e4 => ?_)
      refine g_icmp_ge 51 X dX2_takeOneOf_7 (by decide) (fun c7 => ?_) (fun c7 => ?_)
      · skip
        refine g_null X dX2_takeOneOf_51 ?_
        refine g_areturn X E (Or.inl rfl) dX2_takeOneOf_52 (by decide) (by decide) ?_
        exact ⟨_, rfl, P, hR, Or.inl ⟨rfl, rfl⟩⟩
      · skip
        refine g_iload_n X dX2_takeOneOf_10 rfl ?_
        refine g_aload_n X dX2_takeOneOf_11 rfl ?_
        refine gp_get (j := 0) (v := .ref (ad 13 r q)) X hR hl cl_X2 lk_X2_11 rfl (by decide) rfl rfl dX2_takeOneOf_12 ?_
        refine gp_alen (v := 60) X hR hl G.t2 rfl rfl dX2_takeOneOf_15 ?_
        refine g_icmp_ge 51 X dX2_takeOneOf_16 (by decide) (fun c16 => ?_) (fun c16 => ?_)
        · skip
          refine g_null X dX2_takeOneOf_51 ?_
          refine g_areturn X E (Or.inl rfl) dX2_takeOneOf_52 (by decide) (by decide) ?_
          exact ⟨_, rfl, P, hR, Or.inl ⟨rfl, rfl⟩⟩
        · skip
          exact absurd c16 (by rw [h2]; exact nI_nlt (b := 60) (by omega) (by omega))
    | succ m ih =>
      intro k x2 hm h2
      refine g_iload_n X dX2_takeOneOf_2 rfl ?_
      refine g_aload_n X dX2_takeOneOf_3 rfl ?_
      refine gp_geti (j := 1) X hR hl cl_X2 lk_X2_17 rfl (by decide) rfl rfl dX2_takeOneOf_4 (fun x4 e4 => ?_)
      refine g_icmp_ge 51 X dX2_takeOneOf_7 (by decide) (fun c7 => ?_) (fun c7 => ?_)
      · skip
        refine g_null X dX2_takeOneOf_51 ?_
        refine g_areturn X E (Or.inl rfl) dX2_takeOneOf_52 (by decide) (by decide) ?_
        exact ⟨_, rfl, P, hR, Or.inl ⟨rfl, rfl⟩⟩
      · skip
        refine g_iload_n X dX2_takeOneOf_10 rfl ?_
        refine g_aload_n X dX2_takeOneOf_11 rfl ?_
        refine gp_get (j := 0) (v := .ref (ad 13 r q)) X hR hl cl_X2 lk_X2_11 rfl (by decide) rfl rfl dX2_takeOneOf_12 ?_
        refine gp_alen (v := 60) X hR hl G.t2 rfl rfl dX2_takeOneOf_15 ?_
        refine g_icmp_ge 51 X dX2_takeOneOf_16 (by decide) (fun c16 => ?_) (fun c16 => ?_)
        · skip
          refine g_null X dX2_takeOneOf_51 ?_
          refine g_areturn X E (Or.inl rfl) dX2_takeOneOf_52 (by decide) (by decide) ?_
          exact ⟨_, rfl, P, hR, Or.inl ⟨rfl, rfl⟩⟩
        · skip
          refine g_aload_n X dX2_takeOneOf_19 rfl ?_
          refine gp_get (j := 0) (v := .ref (ad 13 r q)) X hR hl cl_X2 lk_X2_11 rfl (by decide) rfl rfl dX2_takeOneOf_20 ?_
          refine g_iload_n X dX2_takeOneOf_23 rfl ?_
          refine gp_aald_map (j := k) X hR hl G.t2 rfl h2 (by omega) (by decide) dX2_takeOneOf_24 (fun g24 h24 => ?_) (fun h24 => ?_)
          · skip
            have hl24 : gLive P 1 g24 0 := ⟨hL.mem h24, rfl⟩
            refine g_astore_n (lv' := [(3, .ref (ad 1 g24 0)), (2, .int x2), (1, .ref (ad 1 o 0)), (0, .ref (ad 2 r q))]) X dX2_takeOneOf_25 (by decide) rfl ?_
            refine g_aload_n X dX2_takeOneOf_26 rfl ?_
            refine g_ifnull X dX2_takeOneOf_27 ?_
            refine g_aload_n X dX2_takeOneOf_30 rfl ?_
            refine g_aload_n X dX2_takeOneOf_31 rfl ?_
            refine gp_V X RM lm_X2_21 (c_X1_comesWith G hR hl24 ho) cl_X1 hR hl24 rfl rfl rfl (by decide) (by decide) (by decide) dX2_takeOneOf_32 (fun v h1 q => ?_) (fun _ _ q => q.elim)
            obtain ⟨x32, rfl, e32, rfl⟩ := q
            refine GJ.seq (st' := [.int x32]) rfl ?_
            refine g_if_eq 45 X dX2_takeOneOf_35 (by decide) (fun c35 => ?_) (fun c35 => ?_)
            · skip
              refine gp_iinc 1 X dX2_takeOneOf_45 rfl (by decide) (fun x45 e45 => ?_)
              refine GJ.leq (lv' := [(2, .int x45), (3, .ref (ad 1 g24 0)), (1, .ref (ad 1 o 0)), (0, .ref (ad 2 r q))]) rfl ?_
              refine g_goto 2 X dX2_takeOneOf_48 (by decide) ?_
              refine GJ.pick [0, 2, 3] rfl ?_
              exact ih (k + 1) x45 (by omega) (by rw [e45, h2]; exact nI_1 k)
            · skip
              refine g_aload_n X dX2_takeOneOf_38 rfl ?_
              refine g_iload_n X dX2_takeOneOf_39 rfl ?_
              refine gp_V X RM lm_X2_25 (c_X2_takeAt G hR hl hL h2 (by rw [h2, e4, hL.1] at c7; exact (nI_ltI (by omega) (by have := hL.2.2.1; omega)).mp c7)) cl_X2 hR hl rfl rfl rfl (by decide) (by decide) (by decide) dX2_takeOneOf_40 (fun v h1 q => ?_) (fun _ _ q => q.elim)
              obtain ⟨rfl, P40, hR, e40⟩ := q
              refine GJ.seq (st' := []) rfl ?_
              refine g_aload_n X dX2_takeOneOf_43 rfl ?_
              refine g_areturn X E (Or.inr ⟨_, rfl⟩) dX2_takeOneOf_44 (by decide) (by decide) ?_
              exact ⟨_, rfl, _, hR, Or.inr ⟨k, g24, by rw [← hL.2.1]; exact h24, rfl, e40⟩⟩
          · skip
            refine g_astore_nN (lv' := [(3, .null), (2, .int x2), (1, .ref (ad 1 o 0)), (0, .ref (ad 2 r q))]) X dX2_takeOneOf_25 (by decide) rfl ?_
            refine g_aload_nN X dX2_takeOneOf_26 rfl ?_
            refine g_ifnullN 45 X dX2_takeOneOf_27 (by decide) ?_
            refine gp_iinc 1 X dX2_takeOneOf_45 rfl (by decide) (fun x45 e45 => ?_)
            refine GJ.leq (lv' := [(2, .int x45), (3, .null), (1, .ref (ad 1 o 0)), (0, .ref (ad 2 r q))]) rfl ?_
            refine g_goto 2 X dX2_takeOneOf_48 (by decide) ?_
            refine GJ.pick [0, 2, 3] rfl ?_
            exact ih (k + 1) x45 (by omega) (by rw [e45, h2]; exact nI_1 k)
  refine g_iconst (v := 0) X dX2_takeOneOf_0 (by decide) ?_
  refine g_istore_n (lv' := [(2, .int 0), (0, .ref (ad 2 r q)), (1, .ref (ad 1 o 0))]) X dX2_takeOneOf_1 (by decide) rfl ?_
  refine GJ.pick [0, 2, 1] rfl ?_
  exact L 60 0 0 rfl rfl
set_option maxHeartbeats 4000000 in
set_option maxRecDepth 100000 in
theorem c_X2_first {Z : gEnv} {ad : gAd} {P : gP} {h : gH} (G : gG Z) (hR : gRep Z ad P h) {r q : Nat} (hl : gLive P 2 r q) {l : List Nat} (hL : Ln P r q l) : gMet Z yX2_first cX2_first 1 ((Option.some (FieldType.object "Coasterland$Guest"))) 1 0 0 [.ref (ad 2 r q)] h (qR h (fun w => (l = [] ∧ w = .null) ∨ (∃ g t, l = g :: t ∧ w = .ref (ad 1 g 0)))) (qN) := by
  refine g_enter (lv := [(0, .ref (ad 2 r q))]) G.2 (by decide +kernel) (Nat.le_of_ble_eq_true rfl) rfl (fun Γ X Nt E RM => ?_)
  refine g_aload_n X dX2_first_0 rfl ?_
  refine gp_get (j := 0) (v := .ref (ad 13 r q)) X hR hl cl_X2 lk_X2_11 rfl (by decide) rfl rfl dX2_first_1 ?_
  refine g_iconst (v := 0) X dX2_first_4 (by decide) ?_
  refine gp_aald_map (j := 0) X hR hl G.t2 rfl rfl (by decide) (by decide) dX2_first_5 (fun g5 h5 => ?_) (fun h5 => ?_)
  · skip
    refine g_areturn X E (Or.inr ⟨_, rfl⟩) dX2_first_6 (by decide) (by decide) ?_
    rw [hL.2.1] at h5
    cases l with
    | nil => simp at h5
    | cons a t =>
      simp at h5
      subst h5
      exact ⟨_, rfl, Or.inr ⟨a, t, rfl, rfl⟩, rfl⟩
  · skip
    refine g_areturn X E (Or.inl rfl) dX2_first_6 (by decide) (by decide) ?_
    rw [hL.2.1] at h5
    cases l with
    | nil => exact ⟨_, rfl, Or.inl ⟨rfl, rfl⟩, rfl⟩
    | cons a t => simp at h5
theorem ap_end {l : List Nat} {g : Nat} {F : Nat → Option Nat} (hF : ∀ j, F j = l[j]?) : (fun j => if j = l.length then some g else F j) = fun j => (l ++ [g])[j]? := by
  funext j
  by_cases h1 : j = l.length
  · subst h1; simp
  · rw [if_neg h1, hF j]
    rcases Nat.lt_or_ge j l.length with h2 | h2
    · rw [List.getElem?_append_left h2]
    · rw [List.getElem?_append_right h2, List.getElem?_eq_none h2, List.getElem?_eq_none (by simp; omega)]
set_option maxHeartbeats 4000000 in
set_option maxRecDepth 100000 in
theorem c_X2_append {Z : gEnv} {ad : gAd} {P : gP} {h : gH} (G : gG Z) (hR : gRep Z ad P h) {r q : Nat} (hl : gLive P 2 r q) {l : List Nat} (hL : Ln P r q l) (hn : l.length < 60) {o : Nat} (ho : gLive P 1 o 0) : gMet Z yX2_append cX2_append 2 ((Option.none : Option FieldType)) 1 0 0 [.ref (ad 2 r q), .ref (ad 1 o 0)] h (qM (fun h2 => ∃ P2, gRep Z ad P2 h2 ∧ P2 = sLn P r q (l ++ [o]))) (qN) := by
  refine g_enter (lv := [(0, .ref (ad 2 r q)), (1, .ref (ad 1 o 0))]) G.2 (by decide +kernel) (Nat.le_of_ble_eq_true rfl) rfl (fun Γ X Nt E RM => ?_)
  refine g_aload_n X dX2_append_0 rfl ?_
  refine gp_geti (j := 1) X hR hl cl_X2 lk_X2_17 rfl (by decide) rfl rfl dX2_append_1 (fun x1 e1 => ?_)
  refine g_if_lt 39 X dX2_append_4 (by decide) (fun c4 => ?_) (fun c4 => ?_)
  · skip
    exact absurd c4 (by rw [e1, hL.1]; exact nI_pos (by omega))
  · skip
    refine g_aload_n X dX2_append_7 rfl ?_
    refine gp_geti (j := 1) X hR hl cl_X2 lk_X2_17 rfl (by decide) rfl rfl dX2_append_8 (fun x8 e8 => ?_)
    refine g_aload_n X dX2_append_11 rfl ?_
    refine gp_get (j := 0) (v := .ref (ad 13 r q)) X hR hl cl_X2 lk_X2_11 rfl (by decide) rfl rfl dX2_append_12 ?_
    refine gp_alen (v := 60) X hR hl G.t2 rfl rfl dX2_append_15 ?_
    refine g_icmp_ge 39 X dX2_append_16 (by decide) (fun c16 => ?_) (fun c16 => ?_)
    · skip
      exact absurd (by rw [e8, hL.1]; exact nI_lt (b := 60) hn (by decide)) c16
    · skip
      refine g_aload_n X dX2_append_19 rfl ?_
      refine gp_get (j := 0) (v := .ref (ad 13 r q)) X hR hl cl_X2 lk_X2_11 rfl (by decide) rfl rfl dX2_append_20 ?_
      refine g_aload_n X dX2_append_23 rfl ?_
      refine gp_geti (j := 1) X hR hl cl_X2 lk_X2_17 rfl (by decide) rfl rfl dX2_append_24 (fun x24 e24 => ?_)
      refine g_aload_n X dX2_append_27 rfl ?_
      refine gp_astPL (v := (some o)) (j := l.length) X G hR hl rfl (fun _ hh => by cases hh; exact ho) (e24.trans hL.1) hn dX2_append_28 (fun h hR => ?_)
      refine g_aload_n X dX2_append_29 rfl ?_
      refine g_dup X dX2_append_30 rfl ?_
      refine gp_geti (j := 1) X hR hl cl_X2 lk_X2_17 rfl (by decide) rfl rfl dX2_append_31 (fun x31 e31 => ?_)
      refine g_iconst (v := 1) X dX2_append_34 (by decide) ?_
      refine g_iadd X dX2_append_35 (fun x35 e35 => ?_)
      refine gp_puti (j := 1) X hR hl cl_X2 lk_X2_17 rfl (by decide) rfl (by decide) rfl rfl rfl dX2_append_36 (fun h hR => ?_)
      refine g_return X E dX2_append_39 (by decide) (by decide) ?_
      refine ⟨rfl, _, hR, ?_⟩
      have hx : x35 = nI (l ++ [o]).length := by rw [e35, e31, pI_uPL, hL.1, List.length_append]; exact nI_1 _
      rw [uPL_self, uI_sPL, ap_end hL.2.1, hx]
      rfl
end GLINE
end
section
/-! guests: pure words and contracts -/
section GGUEST
variable {Z : gEnv} {Γ : gCtx} {cc : ByteArray} {own : String} {nL : Nat} {ret : Option FieldType} {h : gH} {k n pc : Nat} {lv lv' : List (Nat × Value)} {st st' : List Value} {ad : gAd} {P : gP}
theorem gp_getgl {g r q index : Nat} (X : gOK Z Γ cc own nL ret) (hR : gRep Z ad P h) (hl : gLive P 1 g 0) (hg : pGL P g = some (r, q)) (hlk : Cond.fieldLink own index RX1 (TX1 9).2.1 (TX1 9).2.2.1 ∈ gT) (d : decode cc pc = .ok (.getfield index, 3)) (kk : GJ Z Γ h k n (pc + 3) lv (.ref (ad 2 r q) :: st)) : GJ Z Γ h k n pc lv (.ref (ad 1 g 0) :: st) :=
  gp_get (j := 9) (v := .ref (ad 2 r q)) X hR hl cl_X1 hlk rfl (by decide) rfl (by show some (va_rf ((pGL P g).map _)) = _; rw [hg]; rfl) d kk
theorem Ln.uI {P : gP} {r q : Nat} {l : List Nat} {k r0 i0 s : Nat} {v : Int32} (h : Ln P r q l) (hk : ¬ (k = 2 ∧ s = 1)) : Ln (uI P k r0 i0 s v) r q l := ⟨by rw [pI_uI, if_neg (fun hh => hk ⟨hh.1.symm, hh.2.2.2.symm⟩)]; exact h.1, h.2.1, h.2.2.1, h.2.2.2⟩
theorem Tr.uI {P : gP} {r q : Nat} {l : List Nat} {k r0 i0 s : Nat} {v : Int32} (h : Tr P r q l) (hk : ¬ (k = 5 ∧ s = 2)) : Tr (uI P k r0 i0 s v) r q l := ⟨by rw [pI_uI, if_neg (fun hh => hk ⟨hh.1.symm, hh.2.2.2.symm⟩)]; exact h.1, h.2.1, h.2.2.1, h.2.2.2⟩
theorem Tr.at {P : gP} {r q : Nat} {l : List Nat} (h : Tr P r q l) {j : Nat} (hj : j < l.length) : pRD P r q j = some l[j] := by rw [h.2.1, List.getElem?_eq_getElem hj]
theorem Tr.mem {P : gP} {r q : Nat} {l : List Nat} (h : Tr P r q l) {j g : Nat} (hj : pRD P r q j = some g) : g < pnG P := h.2.2.2 g (List.mem_of_getElem? ((h.2.1 j).symm.trans hj))
theorem sTr_id {P : gP} {r i : Nat} {l : List Nat} (h : Tr P r i l) : sTr P r i l = P := by
  unfold sTr
  rw [uI_id h.1]
  exact sRD_id h.2.1
def fMin99 (x : Int32) : Int32 := if x < 99 then x else 99
def fMax0 (x : Int32) : Int32 := if 0 < x then x else 0
def fJoin (P : gP) (g r q : Nat) (l : List Nat) (p : Int32) : gP := uI (uI (uI (uGL (sLn P r q (l ++ [g])) g (some (r, q))) 1 g 0 10 p) 1 g 0 0 (pI P 1 g 0 0 - p)) 1 g 0 6 113
def fLeave (P : gP) (g r q : Nat) (l : List Nat) : gP := uI (uI (uGL (sLn P r q (l.erase g)) g none) 1 g 0 0 (pI P 1 g 0 0 + pI P 1 g 0 10)) 1 g 0 6 112
def fAboard (P : gP) (g : Nat) : gP := uI (uGL P g none) 1 g 0 6 116
def fMeal (P : gP) (g : Nat) : gP := uI (uI (uI P 1 g 0 0 (pI P 1 g 0 0 - 5)) 1 g 0 3 (fMax0 (pI P 1 g 0 3 - 5))) 1 g 0 4 (fMin99 (pI P 1 g 0 4 + 3))
def fFin (P : gP) (g : Nat) (f : Int32) : gP := uI (uI (uI (uI P 1 g 0 6 112) 1 g 0 4 (fMin99 (pI P 1 g 0 4 + f))) 1 g 0 3 (fMin99 (pI P 1 g 0 3 + 1))) 1 g 0 5 (pI P 1 g 0 5 + 1)
def fFinA (P : gP) (f : Int32) (l : List Nat) : gP := l.foldl (fun Q g => fFin Q g f) P
theorem fFinA_same (f : Int32) : ∀ (l : List Nat) (P : gP), (fFinA P f l).2 = P.2 ∧ ∀ k r i s, k ≠ 1 → pI (fFinA P f l) k r i s = pI P k r i s
  | [], P => ⟨rfl, fun _ _ _ _ _ => rfl⟩
  | g :: l, P => by
    have h1 := fFinA_same f l (fFin P g f)
    refine ⟨h1.1, fun k r i s hk => (h1.2 k r i s hk).trans ?_⟩
    simp [fFin, pI_uI, hk]
theorem gLive_fFinA {P : gP} {f : Int32} {l : List Nat} {k r i : Nat} : gLive (fFinA P f l) k r i = gLive P k r i := by
  have h := (fFinA_same f l P).1
  have e : fFinA P f l = ((fFinA P f l).1, P.2) := by rw [← h]
  rw [e]
  rfl
set_option maxHeartbeats 4000000 in
set_option maxRecDepth 100000 in
theorem c_X1_mayQueue {Z : gEnv} {ad : gAd} {P : gP} {h : gH} (G : gG Z) (hR : gRep Z ad P h) {g : Nat} (hl : gLive P 1 g 0) {r : Nat} (hr : gLive P 3 r 0) : gMet Z yX1_mayQueue cX1_mayQueue 2 ((Option.some FieldType.boolean)) 1 0 0 [.ref (ad 1 g 0), .ref (ad 3 r 0)] h (qI h (fun x => ¬ x = 0 → pI P 1 g 0 6 = 112 ∧ ¬ pI P 1 g 0 0 < pI P 3 r 0 2)) (qN) := by
  refine g_enter (lv := [(0, .ref (ad 1 g 0)), (1, .ref (ad 3 r 0))]) G.2 (by decide +kernel) (Nat.le_of_ble_eq_true rfl) rfl (fun Γ X Nt E RM => ?_)
  refine g_aload_n X dX1_mayQueue_0 rfl ?_
  refine gp_geti (j := 6) X hR hl cl_X1 lk_X1_9 rfl (by decide) rfl rfl dX1_mayQueue_1 (fun x1 e1 => ?_)
  refine g_bipush (v := 112) X dX1_mayQueue_4 (by decide) ?_
  refine g_icmp_ne 44 X dX1_mayQueue_6 (by decide) (fun c6 => ?_) (fun c6 => ?_)
  · skip
    refine g_iconst (v := 0) X dX1_mayQueue_44 (by decide) ?_
    refine g_ireturn X E (by decide) dX1_mayQueue_45 (by decide) (by decide) ?_
    refine ⟨_, rfl, ?_, rfl⟩
    intro hh
    exact absurd rfl hh
  · skip
    refine g_aload_n X dX1_mayQueue_9 rfl ?_
    refine gp_geti (j := 1) X hR hl cl_X1 lk_X1_22 rfl (by decide) rfl rfl dX1_mayQueue_10 (fun x10 e10 => ?_)
    refine g_aload_n X dX1_mayQueue_13 rfl ?_
    refine gp_geti (j := 0) X hR hr cl_X3 lk_X1_28 rfl (by decide) rfl rfl dX1_mayQueue_14 (fun x14 e14 => ?_)
    refine g_icmp_lt 44 X dX1_mayQueue_17 (by decide) (fun c17 => ?_) (fun c17 => ?_)
    · skip
      refine g_iconst (v := 0) X dX1_mayQueue_44 (by decide) ?_
      refine g_ireturn X E (by decide) dX1_mayQueue_45 (by decide) (by decide) ?_
      refine ⟨_, rfl, ?_, rfl⟩
      intro hh
      exact absurd rfl hh
    · skip
      refine g_aload_n X dX1_mayQueue_20 rfl ?_
      refine gp_geti (j := 0) X hR hl cl_X1 lk_X1_19 rfl (by decide) rfl rfl dX1_mayQueue_21 (fun x21 e21 => ?_)
      refine g_aload_n X dX1_mayQueue_24 rfl ?_
      refine gp_geti (j := 2) X hR hr cl_X3 lk_X1_31 rfl (by decide) rfl rfl dX1_mayQueue_25 (fun x25 e25 => ?_)
      refine g_icmp_lt 44 X dX1_mayQueue_28 (by decide) (fun c28 => ?_) (fun c28 => ?_)
      · skip
        refine g_iconst (v := 0) X dX1_mayQueue_44 (by decide) ?_
        refine g_ireturn X E (by decide) dX1_mayQueue_45 (by decide) (by decide) ?_
        refine ⟨_, rfl, ?_, rfl⟩
        intro hh
        exact absurd rfl hh
      · skip
        refine g_aload_n X dX1_mayQueue_31 rfl ?_
        refine gp_geti (j := 4) X hR hl cl_X1 lk_X1_34 rfl (by decide) rfl rfl dX1_mayQueue_32 (fun x32 e32 => ?_)
        refine g_bipush (v := 50) X dX1_mayQueue_35 (by decide) ?_
        refine g_icmp_ge 44 X dX1_mayQueue_37 (by decide) (fun c37 => ?_) (fun c37 => ?_)
        · skip
          refine g_iconst (v := 0) X dX1_mayQueue_44 (by decide) ?_
          refine g_ireturn X E (by decide) dX1_mayQueue_45 (by decide) (by decide) ?_
          refine ⟨_, rfl, ?_, rfl⟩
          intro hh
          exact absurd rfl hh
        · skip
          refine g_iconst (v := 1) X dX1_mayQueue_40 (by decide) ?_
          refine g_goto 45 X dX1_mayQueue_41 (by decide) ?_
          refine g_ireturn X E (by decide) dX1_mayQueue_45 (by decide) (by decide) ?_
          refine ⟨_, rfl, ?_, rfl⟩
          intro _
          rw [← e1, ← e21, ← e25]
          exact ⟨c6, c28⟩
set_option maxHeartbeats 4000000 in
set_option maxRecDepth 100000 in
theorem c_X1_canUseReturn {Z : gEnv} {ad : gAd} {P : gP} {h : gH} (G : gG Z) (hR : gRep Z ad P h) {g : Nat} (hl : gLive P 1 g 0) {x y : Int32} : gMet Z yX1_canUseReturn cX1_canUseReturn 3 ((Option.some FieldType.boolean)) 1 0 0 [.ref (ad 1 g 0), .int x, .int y] h (qI h (fun _ => True)) (qN) := by
  refine g_enter (lv := [(0, .ref (ad 1 g 0)), (1, .int x), (2, .int y)]) G.2 (by decide +kernel) (Nat.le_of_ble_eq_true rfl) rfl (fun Γ X Nt E RM => ?_)
  refine g_aload_n X dX1_canUseReturn_0 rfl ?_
  refine gp_geti (j := 7) X hR hl cl_X1 lk_X1_15 rfl (by decide) rfl rfl dX1_canUseReturn_1 (fun x1 e1 => ?_)
  refine g_iload_n X dX1_canUseReturn_4 rfl ?_
  refine g_icmp_ne 20 X dX1_canUseReturn_5 (by decide) (fun c5 => ?_) (fun c5 => ?_)
  · skip
    refine g_iconst (v := 0) X dX1_canUseReturn_20 (by decide) ?_
    refine g_ireturn X E (by decide) dX1_canUseReturn_21 (by decide) (by decide) ?_
    exact ⟨_, rfl, trivial, rfl⟩
  · skip
    refine g_aload_n X dX1_canUseReturn_8 rfl ?_
    refine gp_geti (j := 8) X hR hl cl_X1 lk_X1_37 rfl (by decide) rfl rfl dX1_canUseReturn_9 (fun x9 e9 => ?_)
    refine g_iload_n X dX1_canUseReturn_12 rfl ?_
    refine g_icmp_gt 20 X dX1_canUseReturn_13 (by decide) (fun c13 => ?_) (fun c13 => ?_)
    · skip
      refine g_iconst (v := 0) X dX1_canUseReturn_20 (by decide) ?_
      refine g_ireturn X E (by decide) dX1_canUseReturn_21 (by decide) (by decide) ?_
      exact ⟨_, rfl, trivial, rfl⟩
    · skip
      refine g_iconst (v := 1) X dX1_canUseReturn_16 (by decide) ?_
      refine g_goto 21 X dX1_canUseReturn_17 (by decide) ?_
      refine g_ireturn X E (by decide) dX1_canUseReturn_21 (by decide) (by decide) ?_
      exact ⟨_, rfl, trivial, rfl⟩
set_option maxHeartbeats 4000000 in
set_option maxRecDepth 100000 in
theorem c_X1_joinLine {Z : gEnv} {ad : gAd} {P : gP} {h : gH} (G : gG Z) (hR : gRep Z ad P h) {g : Nat} (hl : gLive P 1 g 0) {r q : Nat} (hq : gLive P 2 r q) {l : List Nat} (hL : Ln P r q l) (hn : l.length < 60) {p : Int32} : gMet Z yX1_joinLine cX1_joinLine 3 ((Option.none : Option FieldType)) 2 0 0 [.ref (ad 1 g 0), .ref (ad 2 r q), .int p] h (qM (fun h2 => ∃ P2, gRep Z ad P2 h2 ∧ P2 = fJoin P g r q l p)) (qN) := by
  refine g_enter (lv := [(0, .ref (ad 1 g 0)), (1, .ref (ad 2 r q)), (2, .int p)]) G.2 (by decide +kernel) (Nat.le_of_ble_eq_true rfl) rfl (fun Γ X Nt E RM => ?_)
  refine g_aload_n X dX1_joinLine_0 rfl ?_
  refine g_aload_n X dX1_joinLine_1 rfl ?_
  refine gp_V X RM lm_X1_40 (c_X2_append G hR hq hL hn hl) cl_X2 hR hq rfl rfl rfl (Nat.le_of_ble_eq_true rfl) (by decide) (by decide) dX1_joinLine_2 (fun v h1 q => ?_) (fun _ _ q => q.elim)
  obtain ⟨rfl, _, hR, rfl⟩ := q
  refine GJ.seq (st' := []) rfl ?_
  refine g_aload_n X dX1_joinLine_5 rfl ?_
  refine g_aload_n X dX1_joinLine_6 rfl ?_
  refine gp_putgl (v := (some (r, q))) X hR hl rfl lk_X1_46 dX1_joinLine_7 (fun h hR => ?_)
  refine g_aload_n X dX1_joinLine_10 rfl ?_
  refine g_iload_n X dX1_joinLine_11 rfl ?_
  refine gp_puti (j := 10) X hR hl cl_X1 lk_X1_50 rfl (by decide) rfl (by decide) rfl rfl rfl dX1_joinLine_12 (fun h hR => ?_)
  refine g_aload_n X dX1_joinLine_15 rfl ?_
  refine g_dup X dX1_joinLine_16 rfl ?_
  refine gp_geti (j := 0) X hR hl cl_X1 lk_X1_19 rfl (by decide) rfl rfl dX1_joinLine_17 (fun x17 e17 => ?_)
  refine g_iload_n X dX1_joinLine_20 rfl ?_
  refine g_isub X dX1_joinLine_21 (fun x21 e21 => ?_)
  refine gp_puti (j := 0) X hR hl cl_X1 lk_X1_19 rfl (by decide) rfl (by decide) rfl rfl rfl dX1_joinLine_22 (fun h hR => ?_)
  refine g_aload_n X dX1_joinLine_25 rfl ?_
  refine g_bipush (v := 113) X dX1_joinLine_26 (by decide) ?_
  refine gp_puti (j := 6) X hR hl cl_X1 lk_X1_9 rfl (by decide) rfl (by decide) rfl (by decide) (by decide) dX1_joinLine_28 (fun h hR => ?_)
  refine g_return X E dX1_joinLine_31 (by decide) (by decide) ?_
  refine ⟨rfl, _, hR, ?_⟩
  subst_vars
  simp [fJoin, pI_uI, pI_uGL, pI_sLn]
set_option maxHeartbeats 4000000 in
set_option maxRecDepth 100000 in
theorem c_X1_leaveLine {Z : gEnv} {ad : gAd} {P : gP} {h : gH} (G : gG Z) (hR : gRep Z ad P h) {g : Nat} (hl : gLive P 1 g 0) {r q : Nat} (hq : gLive P 2 r q) {l : List Nat} (hL : Ln P r q l) (hg : pGL P g = some (r, q)) : gMet Z yX1_leaveLine cX1_leaveLine 1 ((Option.some FieldType.int)) 3 0 0 [.ref (ad 1 g 0)] h (qIM (fun x h2 => ∃ P2, gRep Z ad P2 h2 ∧ x = pI P 1 g 0 10 ∧ P2 = fLeave P g r q l)) (qN) := by
  refine g_enter (lv := [(0, .ref (ad 1 g 0))]) G.2 (by decide +kernel) (Nat.le_of_ble_eq_true rfl) rfl (fun Γ X Nt E RM => ?_)
  refine g_aload_n X dX1_leaveLine_0 rfl ?_
  refine gp_getgl (r := r) (q := q) X hR hl hg lk_X1_46 dX1_leaveLine_1 ?_
  refine g_ifnull X dX1_leaveLine_4 ?_
  refine g_aload_n X dX1_leaveLine_7 rfl ?_
  refine gp_getgl (r := r) (q := q) X hR hl hg lk_X1_46 dX1_leaveLine_8 ?_
  refine g_aload_n X dX1_leaveLine_11 rfl ?_
  refine gp_V X RM lm_X1_53 (c_X2_takeOut G hR hq hL hl) cl_X2 hR hq rfl rfl rfl (Nat.le_of_ble_eq_true rfl) (by decide) (by decide) dX1_leaveLine_12 (fun v h1 q => ?_) (fun _ _ q => q.elim)
  obtain ⟨rfl, _, hR, rfl⟩ := q
  refine GJ.seq (st' := []) rfl ?_
  refine g_aload_n X dX1_leaveLine_15 rfl ?_
  refine g_null X dX1_leaveLine_16 ?_
  refine gp_putgl (v := none) X hR hl rfl lk_X1_46 dX1_leaveLine_17 (fun h hR => ?_)
  refine g_aload_n X dX1_leaveLine_20 rfl ?_
  refine g_dup X dX1_leaveLine_21 rfl ?_
  refine gp_geti (j := 0) X hR hl cl_X1 lk_X1_19 rfl (by decide) rfl rfl dX1_leaveLine_22 (fun x22 e22 => ?_)
  refine g_aload_n X dX1_leaveLine_25 rfl ?_
  refine gp_geti (j := 10) X hR hl cl_X1 lk_X1_50 rfl (by decide) rfl rfl dX1_leaveLine_26 (fun x26 e26 => ?_)
  refine g_iadd X dX1_leaveLine_29 (fun x29 e29 => ?_)
  refine gp_puti (j := 0) X hR hl cl_X1 lk_X1_19 rfl (by decide) rfl (by decide) rfl rfl rfl dX1_leaveLine_30 (fun h hR => ?_)
  refine g_aload_n X dX1_leaveLine_33 rfl ?_
  refine g_bipush (v := 112) X dX1_leaveLine_34 (by decide) ?_
  refine gp_puti (j := 6) X hR hl cl_X1 lk_X1_9 rfl (by decide) rfl (by decide) rfl (by decide) (by decide) dX1_leaveLine_36 (fun h hR => ?_)
  refine g_aload_n X dX1_leaveLine_39 rfl ?_
  refine gp_geti (j := 10) X hR hl cl_X1 lk_X1_50 rfl (by decide) rfl rfl dX1_leaveLine_40 (fun x40 e40 => ?_)
  refine g_ireturn X E rfl dX1_leaveLine_43 (by decide) (by decide) ?_
  refine ⟨_, rfl, _, hR, ?_, ?_⟩
  · subst_vars; simp [pI_uI, pI_uGL, pI_sLn]
  · subst_vars; simp [fLeave, pI_uI, pI_uGL, pI_sLn]
set_option maxHeartbeats 4000000 in
set_option maxRecDepth 100000 in
theorem c_X1_goAboard {Z : gEnv} {ad : gAd} {P : gP} {h : gH} (G : gG Z) (hR : gRep Z ad P h) {g : Nat} (hl : gLive P 1 g 0) : gMet Z yX1_goAboard cX1_goAboard 1 ((Option.none : Option FieldType)) 1 0 0 [.ref (ad 1 g 0)] h (qM (fun h2 => ∃ P2, gRep Z ad P2 h2 ∧ P2 = fAboard P g)) (qN) := by
  refine g_enter (lv := [(0, .ref (ad 1 g 0))]) G.2 (by decide +kernel) (Nat.le_of_ble_eq_true rfl) rfl (fun Γ X Nt E RM => ?_)
  refine g_aload_n X dX1_goAboard_0 rfl ?_
  refine g_null X dX1_goAboard_1 ?_
  refine gp_putgl (v := none) X hR hl rfl lk_X1_46 dX1_goAboard_2 (fun h hR => ?_)
  refine g_aload_n X dX1_goAboard_5 rfl ?_
  refine g_bipush (v := 116) X dX1_goAboard_6 (by decide) ?_
  refine gp_puti (j := 6) X hR hl cl_X1 lk_X1_9 rfl (by decide) rfl (by decide) rfl (by decide) (by decide) dX1_goAboard_8 (fun h hR => ?_)
  refine g_return X E dX1_goAboard_11 (by decide) (by decide) ?_
  exact ⟨rfl, _, hR, rfl⟩
set_option maxHeartbeats 4000000 in
set_option maxRecDepth 100000 in
theorem c_X1_haveMeal {Z : gEnv} {ad : gAd} {P : gP} {h : gH} (G : gG Z) (hR : gRep Z ad P h) {g : Nat} (hl : gLive P 1 g 0) : gMet Z yX1_haveMeal cX1_haveMeal 1 ((Option.none : Option FieldType)) 2 0 0 [.ref (ad 1 g 0)] h (qM (fun h2 => ∃ P2, gRep Z ad P2 h2 ∧ P2 = fMeal P g)) (qN) := by
  refine g_enter (lv := [(0, .ref (ad 1 g 0))]) G.2 (by decide +kernel) (Nat.le_of_ble_eq_true rfl) rfl (fun Γ X Nt E RM => ?_)
  refine g_aload_n X dX1_haveMeal_0 rfl ?_
  refine g_dup X dX1_haveMeal_1 rfl ?_
  refine gp_geti (j := 0) X hR hl cl_X1 lk_X1_19 rfl (by decide) rfl rfl dX1_haveMeal_2 (fun x2 e2 => ?_)
  refine g_iconst (v := 5) X dX1_haveMeal_5 (by decide) ?_
  refine g_isub X dX1_haveMeal_6 (fun x6 e6 => ?_)
  refine gp_puti (j := 0) X hR hl cl_X1 lk_X1_19 rfl (by decide) rfl (by decide) rfl rfl rfl dX1_haveMeal_7 (fun h hR => ?_)
  refine g_aload_n X dX1_haveMeal_10 rfl ?_
  refine g_iconst (v := 0) X dX1_haveMeal_11 (by decide) ?_
  refine g_aload_n X dX1_haveMeal_12 rfl ?_
  refine gp_geti (j := 3) X hR hl cl_X1 lk_X1_56 rfl (by decide) rfl rfl dX1_haveMeal_13 (fun x13 e13 => ?_)
  refine g_iconst (v := 5) X dX1_haveMeal_16 (by decide) ?_
  refine g_isub X dX1_haveMeal_17 (fun x17 e17 => ?_)
  refine gp_max X RM lm_X1_59 ⟨Nat.le_of_ble_eq_true rfl, Nat.le_of_ble_eq_true rfl⟩ ⟨Nat.le_of_ble_eq_true rfl, Nat.le_of_ble_eq_true rfl⟩ dX1_haveMeal_18 (fun x18 e18 => ?_)
  refine gp_puti (j := 3) X hR hl cl_X1 lk_X1_56 rfl (by decide) rfl (by decide) rfl rfl rfl dX1_haveMeal_21 (fun h hR => ?_)
  refine g_aload_n X dX1_haveMeal_24 rfl ?_
  refine g_bipush (v := 99) X dX1_haveMeal_25 (by decide) ?_
  refine g_aload_n X dX1_haveMeal_27 rfl ?_
  refine gp_geti (j := 4) X hR hl cl_X1 lk_X1_34 rfl (by decide) rfl rfl dX1_haveMeal_28 (fun x28 e28 => ?_)
  refine g_iconst (v := 3) X dX1_haveMeal_31 (by decide) ?_
  refine g_iadd X dX1_haveMeal_32 (fun x32 e32 => ?_)
  refine gp_min X RM lm_X1_65 ⟨Nat.le_of_ble_eq_true rfl, Nat.le_of_ble_eq_true rfl⟩ ⟨Nat.le_of_ble_eq_true rfl, Nat.le_of_ble_eq_true rfl⟩ dX1_haveMeal_33 (fun x33 e33 => ?_)
  refine gp_puti (j := 4) X hR hl cl_X1 lk_X1_34 rfl (by decide) rfl (by decide) rfl rfl rfl dX1_haveMeal_36 (fun h hR => ?_)
  refine g_return X E dX1_haveMeal_39 (by decide) (by decide) ?_
  refine ⟨rfl, _, hR, ?_⟩
  subst_vars
  simp [fMeal, fMax0, fMin99, pI_uI]
set_option maxHeartbeats 4000000 in
set_option maxRecDepth 100000 in
theorem c_X1_finishRide {Z : gEnv} {ad : gAd} {P : gP} {h : gH} (G : gG Z) (hR : gRep Z ad P h) {g : Nat} (hl : gLive P 1 g 0) {f : Int32} : gMet Z yX1_finishRide cX1_finishRide 2 ((Option.none : Option FieldType)) 2 0 0 [.ref (ad 1 g 0), .int f] h (qM (fun h2 => ∃ P2, gRep Z ad P2 h2 ∧ P2 = fFin P g f)) (qN) := by
  refine g_enter (lv := [(0, .ref (ad 1 g 0)), (1, .int f)]) G.2 (by decide +kernel) (Nat.le_of_ble_eq_true rfl) rfl (fun Γ X Nt E RM => ?_)
  refine g_aload_n X dX1_finishRide_0 rfl ?_
  refine g_bipush (v := 112) X dX1_finishRide_1 (by decide) ?_
  refine gp_puti (j := 6) X hR hl cl_X1 lk_X1_9 rfl (by decide) rfl (by decide) rfl (by decide) (by decide) dX1_finishRide_3 (fun h hR => ?_)
  refine g_aload_n X dX1_finishRide_6 rfl ?_
  refine g_bipush (v := 99) X dX1_finishRide_7 (by decide) ?_
  refine g_aload_n X dX1_finishRide_9 rfl ?_
  refine gp_geti (j := 4) X hR hl cl_X1 lk_X1_34 rfl (by decide) rfl rfl dX1_finishRide_10 (fun x10 e10 => ?_)
  refine g_iload_n X dX1_finishRide_13 rfl ?_
  refine g_iadd X dX1_finishRide_14 (fun x14 e14 => ?_)
  refine gp_min X RM lm_X1_65 ⟨Nat.le_of_ble_eq_true rfl, Nat.le_of_ble_eq_true rfl⟩ ⟨Nat.le_of_ble_eq_true rfl, Nat.le_of_ble_eq_true rfl⟩ dX1_finishRide_15 (fun x15 e15 => ?_)
  refine gp_puti (j := 4) X hR hl cl_X1 lk_X1_34 rfl (by decide) rfl (by decide) rfl rfl rfl dX1_finishRide_18 (fun h hR => ?_)
  refine g_aload_n X dX1_finishRide_21 rfl ?_
  refine g_bipush (v := 99) X dX1_finishRide_22 (by decide) ?_
  refine g_aload_n X dX1_finishRide_24 rfl ?_
  refine gp_geti (j := 3) X hR hl cl_X1 lk_X1_56 rfl (by decide) rfl rfl dX1_finishRide_25 (fun x25 e25 => ?_)
  refine g_iconst (v := 1) X dX1_finishRide_28 (by decide) ?_
  refine g_iadd X dX1_finishRide_29 (fun x29 e29 => ?_)
  refine gp_min X RM lm_X1_65 ⟨Nat.le_of_ble_eq_true rfl, Nat.le_of_ble_eq_true rfl⟩ ⟨Nat.le_of_ble_eq_true rfl, Nat.le_of_ble_eq_true rfl⟩ dX1_finishRide_30 (fun x30 e30 => ?_)
  refine gp_puti (j := 3) X hR hl cl_X1 lk_X1_56 rfl (by decide) rfl (by decide) rfl rfl rfl dX1_finishRide_33 (fun h hR => ?_)
  refine g_aload_n X dX1_finishRide_36 rfl ?_
  refine g_dup X dX1_finishRide_37 rfl ?_
  refine gp_geti (j := 5) X hR hl cl_X1 lk_X1_68 rfl (by decide) rfl rfl dX1_finishRide_38 (fun x38 e38 => ?_)
  refine g_iconst (v := 1) X dX1_finishRide_41 (by decide) ?_
  refine g_iadd X dX1_finishRide_42 (fun x42 e42 => ?_)
  refine gp_puti (j := 5) X hR hl cl_X1 lk_X1_68 rfl (by decide) rfl (by decide) rfl rfl rfl dX1_finishRide_43 (fun h hR => ?_)
  refine g_return X E dX1_finishRide_46 (by decide) (by decide) ?_
  refine ⟨rfl, _, hR, ?_⟩
  subst_vars
  simp [fFin, fMin99, pI_uI]
end GGUEST
end
section
/-! trains: pure words and contracts -/
section GTRAIN
def fSeat (P : gP) (r i : Nat) (l : List Nat) (g : Nat) : gP := fAboard (sTr P r i (l ++ [g])) g
def fGo (P : gP) (r i : Nat) (p : Int32) : gP := if pI P 5 r i 3 = 0 then uI (uI (uI P 5 r i 5 109) 5 r i 6 (pI P 5 r i 6 ||| p)) 5 r i 8 0 else uI (uI P 5 r i 5 109) 5 r i 6 (pI P 5 r i 6 ||| p)
def fOut (P : gP) (r i : Nat) (l : List Nat) : gP := sTr (fFinA P (pI P 5 r i 8) l) r i []
def fStand0 (P : gP) (r i : Nat) (s : Int32) : gP := uI (uI (uI (uI P 5 r i 3 s) 5 r i 4 0) 5 r i 5 115) 5 r i 6 (1 <<< (s &&& 31))
def fStand (P : gP) (r i : Nat) (l : List Nat) (s : Int32) : gP := if s = 0 then fOut (fStand0 P r i s) r i l else fStand0 P r i s
/-- a train's move, as far as it is asked later -/
def mvRel (P P2 : gP) (r i b : Nat) (l : List Nat) : Prop :=
  P2 = uI P 5 r i 7 0 ∨ P2 = uI P 5 r i 5 120 ∨ (fStop P r (fNx (pnB P r) b) = true ∧ P2 = fStand P r i l (nI (fNx (pnB P r) b))) ∨
  (fStop P r (fNx (pnB P r) b) = false ∧ ∃ e c f, P2 = uI (uI (uI (uI P 5 r i 3 (nI (fNx (pnB P r) b))) 5 r i 4 e) 5 r i 7 c) 5 r i 8 f)
theorem ro_step {P : gP} {r i k g : Nat} {f : Int32} {l : List Nat} (h : l[k]? = some g) : uRD (fFin (sRD (fFinA P f (l.take k)) r i (fun j => if j < k then none else l[j]?)) g f) r i k none = sRD (fFinA P f (l.take (k + 1))) r i (fun j => if j < k + 1 then none else l[j]?) := by
  have e1 : fFinA P f (l.take (k + 1)) = fFin (fFinA P f (l.take k)) g f := by
    rw [List.take_succ, h]
    simp [fFinA, List.foldl_append]
  have e2 : fFin (sRD (fFinA P f (l.take k)) r i (fun j => if j < k then none else l[j]?)) g f = sRD (fFin (fFinA P f (l.take k)) g f) r i (fun j => if j < k then none else l[j]?) := rfl
  rw [e2, uRD_sRD, e1]
  congr 1
  funext j
  by_cases h1 : j = k
  · simp [h1]
  · by_cases h2 : j < k
    · simp [h2, Nat.lt_succ_of_lt h2]
    · rw [if_neg h1, if_neg h2, if_neg (by omega)]
theorem ro_stepN {P : gP} {r i k : Nat} {f : Int32} {l : List Nat} (h : l[k]? = none) : uRD (sRD (fFinA P f (l.take k)) r i (fun j => if j < k then none else l[j]?)) r i k none = sRD (fFinA P f (l.take (k + 1))) r i (fun j => if j < k + 1 then none else l[j]?) := by
  have e1 : l.take (k + 1) = l.take k := by rw [List.take_succ, h]; simp
  rw [uRD_sRD, e1]
  congr 1
  funext j
  by_cases h1 : j = k
  · simp [h1]
  · by_cases h2 : j < k
    · simp [h2, Nat.lt_succ_of_lt h2]
    · rw [if_neg h1, if_neg h2, if_neg (by omega)]
theorem ro_end {P : gP} {r i : Nat} {f : Int32} {l : List Nat} (hl : l.length ≤ 8) : uI (sRD (fFinA P f (l.take 8)) r i (fun j => if j < 8 then none else l[j]?)) 5 r i 2 0 = sTr (fFinA P f l) r i [] := by
  rw [List.take_of_length_le hl, uI_sRD]
  unfold sTr
  congr 1
  funext j
  by_cases h2 : j < 8
  · simp [h2]
  · rw [if_neg h2, List.getElem?_eq_none (by omega)]
    simp
set_option maxHeartbeats 4000000 in
set_option maxRecDepth 100000 in
theorem c_X5_freeSeats {Z : gEnv} {ad : gAd} {P : gP} {h : gH} (G : gG Z) (hR : gRep Z ad P h) {r i : Nat} (hl : gLive P 5 r i) : gMet Z yX5_freeSeats cX5_freeSeats 1 ((Option.some FieldType.int)) 1 0 0 [.ref (ad 5 r i)] h (qI h (fun x => x = pI P 5 r i 0 - pI P 5 r i 2)) (qN) := by
  refine g_enter (lv := [(0, .ref (ad 5 r i))]) G.2 (by decide +kernel) (Nat.le_of_ble_eq_true rfl) rfl (fun Γ X Nt E RM => ?_)
  refine g_aload_n X dX5_freeSeats_0 rfl ?_
  refine gp_geti (j := 0) X hR hl cl_X5 lk_X5_22 rfl (by decide) rfl rfl dX5_freeSeats_1 (fun x1 e1 => ?_)
  refine g_aload_n X dX5_freeSeats_4 rfl ?_
  refine gp_geti (j := 2) X hR hl cl_X5 lk_X5_31 rfl (by decide) rfl rfl dX5_freeSeats_5 (fun x5 e5 => ?_)
  refine g_isub X dX5_freeSeats_8 (fun x8 e8 => ?_)
  refine g_ireturn X E rfl dX5_freeSeats_9 (by decide) (by decide) ?_
  exact ⟨_, rfl, by subst_vars; rfl, rfl⟩
set_option maxHeartbeats 4000000 in
set_option maxRecDepth 100000 in
theorem c_X5_isLargerParty {Z : gEnv} {ad : gAd} {P : gP} {h : gH} (G : gG Z) (hR : gRep Z ad P h) {r i : Nat} (hl : gLive P 5 r i) {x : Int32} : gMet Z yX5_isLargerParty cX5_isLargerParty 2 ((Option.some FieldType.boolean)) 1 0 0 [.ref (ad 5 r i), .int x] h (qI h (fun _ => True)) (qN) := by
  refine g_enter (lv := [(0, .ref (ad 5 r i)), (1, .int x)]) G.2 (by decide +kernel) (Nat.le_of_ble_eq_true rfl) rfl (fun Γ X Nt E RM => ?_)
  refine g_iload_n X dX5_isLargerParty_0 rfl ?_
  refine g_aload_n X dX5_isLargerParty_1 rfl ?_
  refine gp_geti (j := 0) X hR hl cl_X5 lk_X5_22 rfl (by decide) rfl rfl dX5_isLargerParty_2 (fun x2 e2 => ?_)
  refine g_icmp_le 12 X dX5_isLargerParty_5 (by decide) (fun c5 => ?_) (fun c5 => ?_)
  · skip
    refine g_iconst (v := 0) X dX5_isLargerParty_12 (by decide) ?_
    refine g_ireturn X E (by decide) dX5_isLargerParty_13 (by decide) (by decide) ?_
    exact ⟨_, rfl, trivial, rfl⟩
  · skip
    refine g_iconst (v := 1) X dX5_isLargerParty_8 (by decide) ?_
    refine g_goto 13 X dX5_isLargerParty_9 (by decide) ?_
    refine g_ireturn X E (by decide) dX5_isLargerParty_13 (by decide) (by decide) ?_
    exact ⟨_, rfl, trivial, rfl⟩
set_option maxHeartbeats 4000000 in
set_option maxRecDepth 100000 in
theorem c_X5_seat {Z : gEnv} {ad : gAd} {P : gP} {h : gH} (G : gG Z) (hR : gRep Z ad P h) {r i : Nat} (hl : gLive P 5 r i) {l : List Nat} (hT : Tr P r i l) (hn : l.length < 8) {o : Nat} (ho : gLive P 1 o 0) : gMet Z yX5_seat cX5_seat 2 ((Option.none : Option FieldType)) 2 0 0 [.ref (ad 5 r i), .ref (ad 1 o 0)] h (qM (fun h2 => ∃ P2, gRep Z ad P2 h2 ∧ P2 = fSeat P r i l o)) (qN) := by
  refine g_enter (lv := [(0, .ref (ad 5 r i)), (1, .ref (ad 1 o 0))]) G.2 (by decide +kernel) (Nat.le_of_ble_eq_true rfl) rfl (fun Γ X Nt E RM => ?_)
  refine g_aload_n X dX5_seat_0 rfl ?_
  refine gp_geti (j := 2) X hR hl cl_X5 lk_X5_31 rfl (by decide) rfl rfl dX5_seat_1 (fun x1 e1 => ?_)
  refine g_if_lt 43 X dX5_seat_4 (by decide) (fun c4 => ?_) (fun c4 => ?_)
  · skip
    exact absurd c4 (by rw [e1, hT.1]; exact nI_pos (by omega))
  · skip
    refine g_aload_n X dX5_seat_7 rfl ?_
    refine gp_geti (j := 2) X hR hl cl_X5 lk_X5_31 rfl (by decide) rfl rfl dX5_seat_8 (fun x8 e8 => ?_)
    refine g_aload_n X dX5_seat_11 rfl ?_
    refine gp_get (j := 1) (v := .ref (ad 12 r i)) X hR hl cl_X5 lk_X5_27 rfl (by decide) rfl rfl dX5_seat_12 ?_
    refine gp_alen (v := 8) X hR hl G.t2 rfl rfl dX5_seat_15 ?_
    refine g_icmp_ge 43 X dX5_seat_16 (by decide) (fun c16 => ?_) (fun c16 => ?_)
    · skip
      exact absurd (by rw [e8, hT.1]; exact nI_lt (b := 8) hn (by decide)) c16
    · skip
      refine g_aload_n X dX5_seat_19 rfl ?_
      refine gp_get (j := 1) (v := .ref (ad 12 r i)) X hR hl cl_X5 lk_X5_27 rfl (by decide) rfl rfl dX5_seat_20 ?_
      refine g_aload_n X dX5_seat_23 rfl ?_
      refine gp_geti (j := 2) X hR hl cl_X5 lk_X5_31 rfl (by decide) rfl rfl dX5_seat_24 (fun x24 e24 => ?_)
      refine g_aload_n X dX5_seat_27 rfl ?_
      refine gp_astRD (v := (some o)) (j := l.length) X G hR hl rfl (fun _ hh => by cases hh; exact ho) (e24.trans hT.1) hn dX5_seat_28 (fun h hR => ?_)
      refine g_aload_n X dX5_seat_29 rfl ?_
      refine g_dup X dX5_seat_30 rfl ?_
      refine gp_geti (j := 2) X hR hl cl_X5 lk_X5_31 rfl (by decide) rfl rfl dX5_seat_31 (fun x31 e31 => ?_)
      refine g_iconst (v := 1) X dX5_seat_34 (by decide) ?_
      refine g_iadd X dX5_seat_35 (fun x35 e35 => ?_)
      refine gp_puti (j := 2) X hR hl cl_X5 lk_X5_31 rfl (by decide) rfl (by decide) rfl rfl rfl dX5_seat_36 (fun h hR => ?_)
      refine g_aload_n X dX5_seat_39 rfl ?_
      refine gp_V X RM lm_X5_34 (c_X1_goAboard G hR ho) cl_X1 hR ho rfl rfl rfl (Nat.le_of_ble_eq_true rfl) (by decide) (by decide) dX5_seat_40 (fun v hz q => ?_) (fun _ _ q => q.elim)
      obtain ⟨rfl, _, hR, rfl⟩ := q
      refine GJ.seq (st' := []) rfl ?_
      refine g_return X E dX5_seat_43 (by decide) (by decide) ?_
      refine ⟨rfl, _, hR, ?_⟩
      have hx : x35 = nI (l ++ [o]).length := by rw [e35, e31, pI_uRD, hT.1, List.length_append]; exact nI_1 _
      unfold fSeat sTr
      rw [uRD_self, uI_sRD, ap_end hT.2.1, hx]
set_option maxHeartbeats 4000000 in
set_option maxRecDepth 100000 in
theorem c_X5_holds {Z : gEnv} {ad : gAd} {P : gP} {h : gH} (G : gG Z) (hR : gRep Z ad P h) {r i : Nat} (hl : gLive P 5 r i) {x : Int32} : gMet Z yX5_holds cX5_holds 2 ((Option.some FieldType.boolean)) 1 0 0 [.ref (ad 5 r i), .int x] h (qI h (fun y => y = if pI P 5 r i 6 &&& (1 <<< (x &&& 31)) = 0 then 0 else 1)) (qN) := by
  refine g_enter (lv := [(0, .ref (ad 5 r i)), (1, .int x)]) G.2 (by decide +kernel) (Nat.le_of_ble_eq_true rfl) rfl (fun Γ X Nt E RM => ?_)
  refine g_aload_n X dX5_holds_0 rfl ?_
  refine gp_geti (j := 6) X hR hl cl_X5 lk_X5_19 rfl (by decide) rfl rfl dX5_holds_1 (fun x1 e1 => ?_)
  refine g_iconst (v := 1) X dX5_holds_4 (by decide) ?_
  refine g_iload_n X dX5_holds_5 rfl ?_
  refine g_ishl X dX5_holds_6 (fun x6 e6 => ?_)
  refine g_iand X dX5_holds_7 (fun x7 e7 => ?_)
  refine g_if_eq 15 X dX5_holds_8 (by decide) (fun c8 => ?_) (fun c8 => ?_)
  · skip
    refine g_iconst (v := 0) X dX5_holds_15 (by decide) ?_
    refine g_ireturn X E (by decide) dX5_holds_16 (by decide) (by decide) ?_
    refine ⟨_, rfl, ?_, rfl⟩
    subst_vars
    simp_all
  · skip
    refine g_iconst (v := 1) X dX5_holds_11 (by decide) ?_
    refine g_goto 16 X dX5_holds_12 (by decide) ?_
    refine g_ireturn X E (by decide) dX5_holds_16 (by decide) (by decide) ?_
    refine ⟨_, rfl, ?_, rfl⟩
    subst_vars
    simp_all
set_option maxHeartbeats 4000000 in
set_option maxRecDepth 100000 in
theorem c_X5_leaveStop {Z : gEnv} {ad : gAd} {P : gP} {h : gH} (G : gG Z) (hR : gRep Z ad P h) {r i : Nat} (hl : gLive P 5 r i) {p : Int32} : gMet Z yX5_leaveStop cX5_leaveStop 2 ((Option.none : Option FieldType)) 1 0 0 [.ref (ad 5 r i), .int p] h (qM (fun h2 => ∃ P2, gRep Z ad P2 h2 ∧ P2 = fGo P r i p)) (qN) := by
  refine g_enter (lv := [(0, .ref (ad 5 r i)), (1, .int p)]) G.2 (by decide +kernel) (Nat.le_of_ble_eq_true rfl) rfl (fun Γ X Nt E RM => ?_)
  refine g_aload_n X dX5_leaveStop_0 rfl ?_
  refine g_bipush (v := 109) X dX5_leaveStop_1 (by decide) ?_
  refine gp_puti (j := 5) X hR hl cl_X5 lk_X5_15 rfl (by decide) rfl (by decide) rfl (by decide) (by decide) dX5_leaveStop_3 (fun h hR => ?_)
  refine g_aload_n X dX5_leaveStop_6 rfl ?_
  refine g_aload_n X dX5_leaveStop_7 rfl ?_
  refine gp_geti (j := 6) X hR hl cl_X5 lk_X5_19 rfl (by decide) rfl rfl dX5_leaveStop_8 (fun x8 e8 => ?_)
  refine g_iload_n X dX5_leaveStop_11 rfl ?_
  refine g_ior X dX5_leaveStop_12 (fun x12 e12 => ?_)
  refine gp_puti (j := 6) X hR hl cl_X5 lk_X5_19 rfl (by decide) rfl (by decide) rfl rfl rfl dX5_leaveStop_13 (fun h hR => ?_)
  refine g_aload_n X dX5_leaveStop_16 rfl ?_
  refine gp_geti (j := 3) X hR hl cl_X5 lk_X5_9 rfl (by decide) rfl rfl dX5_leaveStop_17 (fun x17 e17 => ?_)
  refine g_if_ne 28 X dX5_leaveStop_20 (by decide) (fun c20 => ?_) (fun c20 => ?_)
  · skip
    refine g_return X E dX5_leaveStop_28 (by decide) (by decide) ?_
    refine ⟨rfl, _, hR, ?_⟩
    subst_vars
    simp_all [fGo, pI_uI]
  · skip
    refine g_aload_n X dX5_leaveStop_23 rfl ?_
    refine g_iconst (v := 0) X dX5_leaveStop_24 (by decide) ?_
    refine gp_puti (j := 8) X hR hl cl_X5 lk_X5_37 rfl (by decide) rfl (by decide) rfl rfl rfl dX5_leaveStop_25 (fun h hR => ?_)
    refine g_return X E dX5_leaveStop_28 (by decide) (by decide) ?_
    refine ⟨rfl, _, hR, ?_⟩
    subst_vars
    simp_all [fGo, pI_uI]
set_option maxHeartbeats 4000000 in
set_option maxRecDepth 100000 in
theorem c_X5_letRidersOut {Z : gEnv} {ad : gAd} {P : gP} {h : gH} (G : gG Z) (hR : gRep Z ad P h) {r i : Nat} (hl : gLive P 5 r i) {l : List Nat} (hT : Tr P r i l) : gMet Z yX5_letRidersOut cX5_letRidersOut 3 ((Option.none : Option FieldType)) 3 0 0 [.ref (ad 5 r i)] h (qM (fun h2 => ∃ P2, gRep Z ad P2 h2 ∧ P2 = fOut P r i l)) (qN) := by
  refine g_enter (lv := [(0, .ref (ad 5 r i))]) G.2 (by decide +kernel) (Nat.le_of_ble_eq_true rfl) rfl (fun Γ X Nt E RM => ?_)
  have L : ∀ (m : Nat) (k : Nat) (x1 : Int32) (h : gH) (hR : gRep Z ad (sRD (fFinA P (pI P 5 r i 8) (l.take k)) r i (fun j => if j < k then none else l[j]?)) h) (hm : m + k = 8) (h1 : x1 = nI k), GJ Z Γ h 0 0 2 [(1, .int x1), (0, .ref (ad 5 r i))] [] := by
    intro m
    induction m with
    | zero =>
      intro k x1 h hR hm h1
      have hlk : gLive (sRD (fFinA P (pI P 5 r i 8) (l.take k)) r i (fun j => if j < k then none else l[j]?)) 5 r i := by rw [gLive_sRD, gLive_fFinA]; exact hl
      refine g_iload_n X dX5_letRidersOut_2 rfl ?_
      refine g_aload_n X dX5_letRidersOut_3 rfl ?_
      refine gp_get (j := 1) (v := .ref (ad 12 r i)) X hR hlk cl_X5 lk_X5_27 rfl (by decide) rfl rfl dX5_letRidersOut_4 ?_
      refine gp_alen (v := 8) X hR hlk G.t2 rfl rfl dX5_letRidersOut_7 ?_
      refine g_icmp_ge 43 X dX5_letRidersOut_8 (by decide) (fun c8 => ?_) (fun c8 => ?_)
      · skip
        refine g_aload_n X dX5_letRidersOut_43 rfl ?_
        refine g_iconst (v := 0) X dX5_letRidersOut_44 (by decide) ?_
        refine gp_puti (j := 2) X hR hlk cl_X5 lk_X5_31 rfl (by decide) rfl (by decide) rfl rfl rfl dX5_letRidersOut_45 (fun h hR => ?_)
        refine g_return X E dX5_letRidersOut_48 (by decide) (by decide) ?_
        have hk8 : k = 8 := by omega
        subst hk8
        exact ⟨rfl, _, hR, ro_end hT.2.2.1⟩
      · skip
        exact absurd c8 (by rw [h1]; exact nI_nlt (b := 8) (by omega) (by omega))
    | succ m ih =>
      intro k x1 h hR hm h1
      have hlk : gLive (sRD (fFinA P (pI P 5 r i 8) (l.take k)) r i (fun j => if j < k then none else l[j]?)) 5 r i := by rw [gLive_sRD, gLive_fFinA]; exact hl
      refine g_iload_n X dX5_letRidersOut_2 rfl ?_
      refine g_aload_n X dX5_letRidersOut_3 rfl ?_
      refine gp_get (j := 1) (v := .ref (ad 12 r i)) X hR hlk cl_X5 lk_X5_27 rfl (by decide) rfl rfl dX5_letRidersOut_4 ?_
      refine gp_alen (v := 8) X hR hlk G.t2 rfl rfl dX5_letRidersOut_7 ?_
      refine g_icmp_ge 43 X dX5_letRidersOut_8 (by decide) (fun c8 => ?_) (fun c8 => ?_)
      · skip
        exact absurd (by rw [h1]; exact nI_lt (b := 8) (by omega) (by omega)) c8
      · skip
        refine g_aload_n X dX5_letRidersOut_11 rfl ?_
        refine gp_get (j := 1) (v := .ref (ad 12 r i)) X hR hlk cl_X5 lk_X5_27 rfl (by decide) rfl rfl dX5_letRidersOut_12 ?_
        refine g_iload_n X dX5_letRidersOut_15 rfl ?_
        refine gp_aald_map (j := k) X hR hlk G.t2 rfl h1 (by omega) (by decide) dX5_letRidersOut_16 (fun g16 h16 => ?_) (fun h16 => ?_)
        · skip
          have hl16 : gLive (sRD (fFinA P (pI P 5 r i 8) (l.take k)) r i (fun j => if j < k then none else l[j]?)) 1 g16 0 := (by rw [pRD_sRD, if_pos ⟨rfl, rfl⟩, if_neg (Nat.lt_irrefl k)] at h16; rw [gLive_sRD, gLive_fFinA]; exact ⟨hT.2.2.2 _ (List.mem_of_getElem? h16), rfl⟩)
          refine g_astore_n (lv' := [(2, .ref (ad 1 g16 0)), (1, .int x1), (0, .ref (ad 5 r i))]) X dX5_letRidersOut_17 (by decide) rfl ?_
          refine g_aload_n X dX5_letRidersOut_18 rfl ?_
          refine g_ifnull X dX5_letRidersOut_19 ?_
          refine g_aload_n X dX5_letRidersOut_22 rfl ?_
          refine g_aload_n X dX5_letRidersOut_23 rfl ?_
          refine gp_geti (j := 8) X hR hlk cl_X5 lk_X5_37 rfl (by decide) rfl rfl dX5_letRidersOut_24 (fun x24 e24 => ?_)
          refine gp_V X RM lm_X5_85 (c_X1_finishRide G hR hl16) cl_X1 hR hl16 rfl rfl rfl (Nat.le_of_ble_eq_true rfl) (by decide) (by decide) dX5_letRidersOut_27 (fun v hz q => ?_) (fun _ _ q => q.elim)
          obtain ⟨rfl, _, hR, rfl⟩ := q
          refine GJ.seq (st' := []) rfl ?_
          refine g_aload_n X dX5_letRidersOut_30 rfl ?_
          refine gp_get (j := 1) (v := .ref (ad 12 r i)) X hR hlk cl_X5 lk_X5_27 rfl (by decide) rfl rfl dX5_letRidersOut_31 ?_
          refine g_iload_n X dX5_letRidersOut_34 rfl ?_
          refine g_null X dX5_letRidersOut_35 ?_
          refine gp_astRD (v := none) (j := k) X G hR hlk rfl (fun _ hh => by cases hh) h1 (by omega) dX5_letRidersOut_36 (fun h hR => ?_)
          refine gp_iinc 1 X dX5_letRidersOut_37 rfl (by decide) (fun x37 e37 => ?_)
          refine GJ.leq (lv' := [(1, .int x37), (2, .ref (ad 1 g16 0)), (0, .ref (ad 5 r i))]) rfl ?_
          refine g_goto 2 X dX5_letRidersOut_40 (by decide) ?_
          refine GJ.pick [0, 2] rfl ?_
          rw [pRD_sRD, if_pos ⟨rfl, rfl⟩, if_neg (Nat.lt_irrefl k)] at h16
          have hx24 : x24 = pI P 5 r i 8 := e24.trans ((fFinA_same _ _ _).2 5 r i 8 (by decide))
          subst hx24
          exact ih (k + 1) x37 h (by rw [← ro_step h16]; exact hR) (by omega) (by rw [e37, h1]; exact nI_1 k)
        · skip
          refine g_astore_nN (lv' := [(2, .null), (1, .int x1), (0, .ref (ad 5 r i))]) X dX5_letRidersOut_17 (by decide) rfl ?_
          refine g_aload_nN X dX5_letRidersOut_18 rfl ?_
          refine g_ifnullN 30 X dX5_letRidersOut_19 (by decide) ?_
          refine g_aload_n X dX5_letRidersOut_30 rfl ?_
          refine gp_get (j := 1) (v := .ref (ad 12 r i)) X hR hlk cl_X5 lk_X5_27 rfl (by decide) rfl rfl dX5_letRidersOut_31 ?_
          refine g_iload_n X dX5_letRidersOut_34 rfl ?_
          refine g_null X dX5_letRidersOut_35 ?_
          refine gp_astRD (v := none) (j := k) X G hR hlk rfl (fun _ hh => by cases hh) h1 (by omega) dX5_letRidersOut_36 (fun h hR => ?_)
          refine gp_iinc 1 X dX5_letRidersOut_37 rfl (by decide) (fun x37 e37 => ?_)
          refine GJ.leq (lv' := [(1, .int x37), (2, .null), (0, .ref (ad 5 r i))]) rfl ?_
          refine g_goto 2 X dX5_letRidersOut_40 (by decide) ?_
          refine GJ.pick [0, 2] rfl ?_
          rw [pRD_sRD, if_pos ⟨rfl, rfl⟩, if_neg (Nat.lt_irrefl k)] at h16
          exact ih (k + 1) x37 h (by rw [← ro_stepN h16]; exact hR) (by omega) (by rw [e37, h1]; exact nI_1 k)
  refine g_iconst (v := 0) X dX5_letRidersOut_0 (by decide) ?_
  refine g_istore_n (lv' := [(1, .int 0), (0, .ref (ad 5 r i))]) X dX5_letRidersOut_1 (by decide) rfl ?_
  exact L 8 0 0 h (by rw [List.take_zero]; show gRep Z ad (sRD P r i _) h; rw [sRD_id (fun j => by rw [if_neg (Nat.not_lt_zero j)]; exact hT.2.1 j)]; exact hR) rfl rfl
set_option maxHeartbeats 4000000 in
set_option maxRecDepth 100000 in
theorem c_X5_standIn {Z : gEnv} {ad : gAd} {P : gP} {h : gH} (G : gG Z) (hR : gRep Z ad P h) {r i : Nat} (hl : gLive P 5 r i) {l : List Nat} (hT : Tr P r i l) {x : Int32} : gMet Z yX5_standIn cX5_standIn 2 ((Option.none : Option FieldType)) 4 0 0 [.ref (ad 5 r i), .int x] h (qM (fun h2 => ∃ P2, gRep Z ad P2 h2 ∧ P2 = fStand P r i l x)) (qN) := by
  refine g_enter (lv := [(0, .ref (ad 5 r i)), (1, .int x)]) G.2 (by decide +kernel) (Nat.le_of_ble_eq_true rfl) rfl (fun Γ X Nt E RM => ?_)
  refine g_aload_n X dX5_standIn_0 rfl ?_
  refine g_iload_n X dX5_standIn_1 rfl ?_
  refine gp_puti (j := 3) X hR hl cl_X5 lk_X5_9 rfl (by decide) rfl (by decide) rfl rfl rfl dX5_standIn_2 (fun h hR => ?_)
  refine g_aload_n X dX5_standIn_5 rfl ?_
  refine g_iconst (v := 0) X dX5_standIn_6 (by decide) ?_
  refine gp_puti (j := 4) X hR hl cl_X5 lk_X5_54 rfl (by decide) rfl (by decide) rfl rfl rfl dX5_standIn_7 (fun h hR => ?_)
  refine g_aload_n X dX5_standIn_10 rfl ?_
  refine g_bipush (v := 115) X dX5_standIn_11 (by decide) ?_
  refine gp_puti (j := 5) X hR hl cl_X5 lk_X5_15 rfl (by decide) rfl (by decide) rfl (by decide) (by decide) dX5_standIn_13 (fun h hR => ?_)
  refine g_aload_n X dX5_standIn_16 rfl ?_
  refine g_iconst (v := 1) X dX5_standIn_17 (by decide) ?_
  refine g_iload_n X dX5_standIn_18 rfl ?_
  refine g_ishl X dX5_standIn_19 (fun x19 e19 => ?_)
  refine gp_puti (j := 6) X hR hl cl_X5 lk_X5_19 rfl (by decide) rfl (by decide) rfl rfl rfl dX5_standIn_20 (fun h hR => ?_)
  refine g_iload_n X dX5_standIn_23 rfl ?_
  refine g_if_ne 31 X dX5_standIn_24 (by decide) (fun c24 => ?_) (fun c24 => ?_)
  · skip
    refine g_return X E dX5_standIn_31 (by decide) (by decide) ?_
    refine ⟨rfl, _, hR, ?_⟩
    subst_vars
    simp_all [fStand, fStand0]
  · skip
    refine g_aload_n X dX5_standIn_27 rfl ?_
    refine gp_V X RM lm_X5_82 (c_X5_letRidersOut G hR hl ((((hT.uI (by decide)).uI (by decide)).uI (by decide)).uI (by decide))) cl_X5 hR hl rfl rfl rfl (Nat.le_of_ble_eq_true rfl) (by decide) (by decide) dX5_standIn_28 (fun v hz q => ?_) (fun _ _ q => q.elim)
    obtain ⟨rfl, _, hR, rfl⟩ := q
    refine GJ.seq (st' := []) rfl ?_
    refine g_return X E dX5_standIn_31 (by decide) (by decide) ?_
    refine ⟨rfl, _, hR, ?_⟩
    subst_vars
    simp_all [fStand, fStand0]
set_option maxHeartbeats 4000000 in
set_option maxRecDepth 100000 in
theorem c_X5_countOf {Z : gEnv} {ad : gAd} {P : gP} {h : gH} (G : gG Z) (hR : gRep Z ad P h) {r i : Nat} (hl : gLive P 5 r i) {l : List Nat} (hT : Tr P r i l) {o : Nat} (ho : gLive P 1 o 0) : gMet Z yX5_countOf cX5_countOf 4 ((Option.some FieldType.int)) 1 0 0 [.ref (ad 5 r i), .ref (ad 1 o 0)] h (qI h (fun x => x = nI (l.count o))) (qN) := by
  refine g_enter (lv := [(0, .ref (ad 5 r i)), (1, .ref (ad 1 o 0))]) G.2 (by decide +kernel) (Nat.le_of_ble_eq_true rfl) rfl (fun Γ X Nt E RM => ?_)
  have L : ∀ (m : Nat) (k : Nat) (x2 x3 : Int32) (hm : m + k = 8) (h3 : x3 = nI k) (h2 : x2 = nI ((l.take k).count o)), GJ Z Γ h 0 0 4 [(3, .int x3), (2, .int x2), (1, .ref (ad 1 o 0)), (0, .ref (ad 5 r i))] [] := by
    intro m
    induction m with
    | zero =>
      intro k x2 x3 hm h3 h2
      refine g_iload_n X dX5_countOf_4 rfl ?_
      refine g_aload_n X dX5_countOf_5 rfl ?_
      refine gp_geti (j := 2) X hR hl cl_X5 lk_X5_31 rfl (by decide) rfl rfl dX5_countOf_6 (fun x6 e6 => ?_)
      refine g_icmp_ge 40 X dX5_countOf_9 (by decide) (fun c9 => ?_) (fun c9 => ?_)
      · skip
        refine g_iload_n X dX5_countOf_40 rfl ?_
        refine g_ireturn X E rfl dX5_countOf_41 (by decide) (by decide) ?_
        refine ⟨_, rfl, ?_, rfl⟩
        rw [h2, List.take_of_length_le ?_]
        rcases Nat.lt_or_ge k l.length with q9 | q9
        · exact absurd (by rw [h3, e6, hT.1]; exact nI_lt q9 (by have := hT.2.2.1; omega)) c9
        · exact q9
      · skip
        refine g_iload_n X dX5_countOf_12 rfl ?_
        refine g_aload_n X dX5_countOf_13 rfl ?_
        refine gp_get (j := 1) (v := .ref (ad 12 r i)) X hR hl cl_X5 lk_X5_27 rfl (by decide) rfl rfl dX5_countOf_14 ?_
        refine gp_alen (v := 8) X hR hl G.t2 rfl rfl dX5_countOf_17 ?_
        refine g_icmp_ge 40 X dX5_countOf_18 (by decide) (fun c18 => ?_) (fun c18 => ?_)
        · skip
          refine absurd c9 ?_
          rw [h3, e6, hT.1]
          exact nI_nlt (by have := hT.2.2.1; omega) (by omega)
        · skip
          exact absurd c18 (by rw [h3]; exact nI_nlt (b := 8) (by omega) (by omega))
    | succ m ih =>
      intro k x2 x3 hm h3 h2
      refine g_iload_n X dX5_countOf_4 rfl ?_
      refine g_aload_n X dX5_countOf_5 rfl ?_
      refine gp_geti (j := 2) X hR hl cl_X5 lk_X5_31 rfl (by decide) rfl rfl dX5_countOf_6 (fun x6 e6 => ?_)
      refine g_icmp_ge 40 X dX5_countOf_9 (by decide) (fun c9 => ?_) (fun c9 => ?_)
      · skip
        refine g_iload_n X dX5_countOf_40 rfl ?_
        refine g_ireturn X E rfl dX5_countOf_41 (by decide) (by decide) ?_
        refine ⟨_, rfl, ?_, rfl⟩
        rw [h2, List.take_of_length_le ?_]
        rcases Nat.lt_or_ge k l.length with q9 | q9
        · exact absurd (by rw [h3, e6, hT.1]; exact nI_lt q9 (by have := hT.2.2.1; omega)) c9
        · exact q9
      · skip
        refine g_iload_n X dX5_countOf_12 rfl ?_
        refine g_aload_n X dX5_countOf_13 rfl ?_
        refine gp_get (j := 1) (v := .ref (ad 12 r i)) X hR hl cl_X5 lk_X5_27 rfl (by decide) rfl rfl dX5_countOf_14 ?_
        refine gp_alen (v := 8) X hR hl G.t2 rfl rfl dX5_countOf_17 ?_
        refine g_icmp_ge 40 X dX5_countOf_18 (by decide) (fun c18 => ?_) (fun c18 => ?_)
        · skip
          exact absurd (by rw [h3]; exact nI_lt (b := 8) (by omega) (by omega)) c18
        · skip
          refine g_aload_n X dX5_countOf_21 rfl ?_
          refine gp_get (j := 1) (v := .ref (ad 12 r i)) X hR hl cl_X5 lk_X5_27 rfl (by decide) rfl rfl dX5_countOf_22 ?_
          refine g_iload_n X dX5_countOf_25 rfl ?_
          refine gp_aald_map (j := k) X hR hl G.t2 rfl h3 (by omega) (by decide) dX5_countOf_26 (fun g26 h26 => ?_) (fun h26 => ?_)
          · skip
            have hl26 : gLive P 1 g26 0 := ⟨hT.mem h26, rfl⟩
            refine g_aload_n X dX5_countOf_27 rfl ?_
            refine g_acmp_ne 34 X dX5_countOf_28 (by decide) (fun c28 => ?_) (fun c28 => ?_)
            · skip
              refine gp_iinc 0 X dX5_countOf_34 rfl (by decide) (fun x34 e34 => ?_)
              refine GJ.leq (lv' := [(3, .int x34), (2, .int x2), (1, .ref (ad 1 o 0)), (0, .ref (ad 5 r i))]) rfl ?_
              refine g_goto 4 X dX5_countOf_37 (by decide) ?_
              have hgo : g26 = o ↔ ad 1 g26 0 = ad 1 o 0 := ⟨fun e => by rw [e], fun e => (hR.2 _ _ _ _ _ _ hl26 ho e).2.1⟩
              have hl9 : l[k]? = some g26 := by rw [← hT.2.1]; exact h26
              exact ih (k + 1) x2 x34 (by omega) (by rw [e34, h3]; exact nI_1 k) (by rw [ct_step hl9, if_neg (fun e => c28 (hgo.mp e)), h2, Nat.add_zero])
            · skip
              refine gp_iinc 1 X dX5_countOf_31 rfl (by decide) (fun x31 e31 => ?_)
              refine GJ.leq (lv' := [(2, .int x31), (3, .int x3), (1, .ref (ad 1 o 0)), (0, .ref (ad 5 r i))]) rfl ?_
              refine gp_iinc 1 X dX5_countOf_34 rfl (by decide) (fun x34 e34 => ?_)
              refine GJ.leq (lv' := [(3, .int x34), (2, .int x31), (1, .ref (ad 1 o 0)), (0, .ref (ad 5 r i))]) rfl ?_
              refine g_goto 4 X dX5_countOf_37 (by decide) ?_
              have hgo : g26 = o ↔ ad 1 g26 0 = ad 1 o 0 := ⟨fun e => by rw [e], fun e => (hR.2 _ _ _ _ _ _ hl26 ho e).2.1⟩
              have hl9 : l[k]? = some g26 := by rw [← hT.2.1]; exact h26
              exact ih (k + 1) x31 x34 (by omega) (by rw [e34, h3]; exact nI_1 k) (by rw [ct_step hl9, if_pos (hgo.mpr c28), e31, h2]; exact nI_1 _)
          · skip
            exact absurd h26 (by rw [hT.at (by rw [h3, e6, hT.1] at c9; exact (nI_ltI (by omega) (by have := hT.2.2.1; omega)).mp c9)]; exact fun hh => by cases hh)
  refine g_iconst (v := 0) X dX5_countOf_0 (by decide) ?_
  refine g_istore_n (lv' := [(2, .int 0), (0, .ref (ad 5 r i)), (1, .ref (ad 1 o 0))]) X dX5_countOf_1 (by decide) rfl ?_
  refine g_iconst (v := 0) X dX5_countOf_2 (by decide) ?_
  refine g_istore_n (lv' := [(3, .int 0), (2, .int 0), (0, .ref (ad 5 r i)), (1, .ref (ad 1 o 0))]) X dX5_countOf_3 (by decide) rfl ?_
  refine GJ.pick [0, 1, 3, 2] rfl ?_
  exact L 8 0 0 0 rfl rfl (by simp; rfl)
set_option maxHeartbeats 4000000 in
set_option maxRecDepth 100000 in
theorem c_X5_moveOn {Z : gEnv} {ad : gAd} {P : gP} {h : gH} (G : gG Z) (hR : gRep Z ad P h) {r i : Nat} (hl : gLive P 5 r i) {l : List Nat} (hT : Tr P r i l) (hB : pnB P r ≤ 12) {b : Nat} (hb : pI P 5 r i 3 = nI b) (hbn : b < pnB P r) {w : Int32} : gMet Z yX5_moveOn cX5_moveOn 6 ((Option.none : Option FieldType)) 5 0 0 [.ref (ad 5 r i), .ref (ad 4 r 0), .int w] h (qM (fun h2 => ∃ P2, gRep Z ad P2 h2 ∧ mvRel P P2 r i b l)) (qN) := by
  refine g_enter (lv := [(0, .ref (ad 5 r i)), (1, .ref (ad 4 r 0)), (2, .int w)]) G.2 (by decide +kernel) (Nat.le_of_ble_eq_true rfl) rfl (fun Γ X Nt E RM => ?_)
  have hlR : gLive P 4 r 0 := ⟨hl.1, rfl⟩
  refine g_aload_n X dX5_moveOn_0 rfl ?_
  refine gp_geti (j := 7) X hR hl cl_X5 lk_X5_40 rfl (by decide) rfl rfl dX5_moveOn_1 (fun x1 e1 => ?_)
  refine g_if_eq 13 X dX5_moveOn_4 (by decide) (fun c4 => ?_) (fun c4 => ?_)
  · skip
    refine g_aload_n X dX5_moveOn_13 rfl ?_
    refine g_aload_n X dX5_moveOn_14 rfl ?_
    refine gp_geti (j := 3) X hR hl cl_X5 lk_X5_9 rfl (by decide) rfl rfl dX5_moveOn_15 (fun x15 e15 => ?_)
    refine gp_V X RM lm_X5_44 (c_X4_blockOrNull G hR hlR hB) cl_X4 hR hlR rfl rfl rfl (Nat.le_of_ble_eq_true rfl) (by decide) (by decide) dX5_moveOn_18 (fun v hz q => ?_) (fun _ _ q => q.elim)
    obtain ⟨w18, rfl, e18, rfl⟩ := q
    rcases e18 with ⟨j18, f18, k18, rfl⟩ | ⟨rfl, f18⟩
    · skip
      obtain rfl : b = j18 := (nI_eq (Nat.lt_of_lt_of_le hbn (Nat.le_trans hB (by decide))) (by omega)).mp (((e15.trans hb)).symm.trans f18)
      have hl18 : gLive P 0 r b := ⟨(hlR).1, k18⟩
      refine GJ.seq (st' := [.ref (ad 0 r b)]) rfl ?_
      refine g_astore_n (lv' := [(3, .ref (ad 0 r b)), (0, .ref (ad 5 r i)), (1, .ref (ad 4 r 0)), (2, .int w)]) X dX5_moveOn_21 (by decide) rfl ?_
      refine g_aload_n X dX5_moveOn_22 rfl ?_
      refine g_aload_n X dX5_moveOn_23 rfl ?_
      refine g_aload_n X dX5_moveOn_24 rfl ?_
      refine gp_geti (j := 3) X hR hl cl_X5 lk_X5_9 rfl (by decide) rfl rfl dX5_moveOn_25 (fun x25 e25 => ?_)
      refine gp_V X RM lm_X5_50 (c_X4_next G hR hlR hB (e25.trans hb) hbn) cl_X4 hR hlR rfl rfl rfl (Nat.le_of_ble_eq_true rfl) (by decide) (by decide) dX5_moveOn_28 (fun v hz q => ?_) (fun _ _ q => q.elim)
      obtain ⟨x28, rfl, e28, rfl⟩ := q
      refine GJ.seq (st' := [.int x28, .ref (ad 4 r 0)]) rfl ?_
      refine gp_V X RM lm_X5_44 (c_X4_blockOrNull G hR hlR hB) cl_X4 hR hlR rfl rfl rfl (Nat.le_of_ble_eq_true rfl) (by decide) (by decide) dX5_moveOn_31 (fun v hz q => ?_) (fun _ _ q => q.elim)
      obtain ⟨w31, rfl, e31, rfl⟩ := q
      rcases e31 with ⟨j31, f31, k31, rfl⟩ | ⟨rfl, f31⟩
      · skip
        obtain rfl : (fNx (pnB P r) b) = j31 := (nI_eq (Nat.lt_of_lt_of_le (fNx_lt hbn) (Nat.le_trans hB (by decide))) (by omega)).mp ((e28).symm.trans f31)
        have hl31 : gLive P 0 r (fNx (pnB P r) b) := ⟨(hlR).1, k31⟩
        refine GJ.seq (st' := [.ref (ad 0 r (fNx (pnB P r) b))]) rfl ?_
        refine g_astore (lv' := [(4, .ref (ad 0 r (fNx (pnB P r) b))), (3, .ref (ad 0 r b)), (0, .ref (ad 5 r i)), (1, .ref (ad 4 r 0)), (2, .int w)]) X dX5_moveOn_34 (by decide) rfl ?_
        refine g_aload_n X dX5_moveOn_36 rfl ?_
        refine g_ifnull X dX5_moveOn_37 ?_
        refine g_aload X dX5_moveOn_40 rfl ?_
        refine g_ifnonnull 46 X dX5_moveOn_42 (by decide) ?_
        refine g_aload_n X dX5_moveOn_46 rfl ?_
        refine g_aload_n X dX5_moveOn_47 rfl ?_
        refine gp_geti (j := 4) X hR hl cl_X5 lk_X5_54 rfl (by decide) rfl rfl dX5_moveOn_48 (fun x48 e48 => ?_)
        refine g_iload_n X dX5_moveOn_51 rfl ?_
        refine gp_V X RM lm_X5_57 (c_X0_energyBehind G hR hl18) cl_X0 hR hl18 rfl rfl rfl (Nat.le_of_ble_eq_true rfl) (by decide) (by decide) dX5_moveOn_52 (fun v hz q => ?_) (fun _ _ q => q.elim)
        obtain ⟨x52, rfl, e52, rfl⟩ := q
        refine GJ.seq (st' := [.int x52]) rfl ?_
        refine g_istore (lv' := [(5, .int x52), (4, .ref (ad 0 r (fNx (pnB P r) b))), (3, .ref (ad 0 r b)), (0, .ref (ad 5 r i)), (1, .ref (ad 4 r 0)), (2, .int w)]) X dX5_moveOn_55 (by decide) rfl ?_
        refine g_iload X dX5_moveOn_57 rfl ?_
        refine g_if_ge 71 X dX5_moveOn_59 (by decide) (fun c59 => ?_) (fun c59 => ?_)
        · skip
          refine g_aload X dX5_moveOn_71 rfl ?_
          refine gp_V X RM lm_X5_63 (c_X0_isStop G hR hl31) cl_X0 hR hl31 rfl rfl rfl (Nat.le_of_ble_eq_true rfl) (by decide) (by decide) dX5_moveOn_73 (fun v hz q => ?_) (fun _ _ q => q.elim)
          obtain ⟨x73, rfl, e73, rfl⟩ := q
          refine GJ.seq (st' := [.int x73]) rfl ?_
          refine g_if_eq 94 X dX5_moveOn_76 (by decide) (fun c76 => ?_) (fun c76 => ?_)
          · skip
            refine g_aload_n X dX5_moveOn_94 rfl ?_
            refine g_aload_n X dX5_moveOn_95 rfl ?_
            refine g_aload_n X dX5_moveOn_96 rfl ?_
            refine gp_geti (j := 3) X hR hl cl_X5 lk_X5_9 rfl (by decide) rfl rfl dX5_moveOn_97 (fun x97 e97 => ?_)
            refine gp_V X RM lm_X5_50 (c_X4_next G hR hlR hB (e97.trans hb) hbn) cl_X4 hR hlR rfl rfl rfl (Nat.le_of_ble_eq_true rfl) (by decide) (by decide) dX5_moveOn_100 (fun v hz q => ?_) (fun _ _ q => q.elim)
            obtain ⟨x100, rfl, e100, rfl⟩ := q
            refine GJ.seq (st' := [.int x100, .ref (ad 5 r i)]) rfl ?_
            refine gp_puti (j := 3) X hR hl cl_X5 lk_X5_9 rfl (by decide) rfl (by decide) rfl rfl rfl dX5_moveOn_103 (fun h hR => ?_)
            refine g_aload_n X dX5_moveOn_106 rfl ?_
            refine g_iload X dX5_moveOn_107 rfl ?_
            refine gp_puti (j := 4) X hR hl cl_X5 lk_X5_54 rfl (by decide) rfl (by decide) rfl rfl rfl dX5_moveOn_109 (fun h hR => ?_)
            refine g_aload_n X dX5_moveOn_112 rfl ?_
            refine g_aload X dX5_moveOn_113 rfl ?_
            refine gp_geti (j := 0) X hR hl31 cl_X0 lk_X5_71 rfl (by decide) rfl rfl dX5_moveOn_115 (fun x115 e115 => ?_)
            refine g_bipush (v := 108) X dX5_moveOn_118 (by decide) ?_
            refine g_icmp_ne 127 X dX5_moveOn_120 (by decide) (fun c120 => ?_) (fun c120 => ?_)
            · skip
              refine g_iconst (v := 0) X dX5_moveOn_127 (by decide) ?_
              refine gp_puti (j := 7) X hR hl cl_X5 lk_X5_40 rfl (by decide) rfl (by decide) rfl (by decide) (by decide) dX5_moveOn_128 (fun h hR => ?_)
              refine g_aload_n X dX5_moveOn_131 rfl ?_
              refine g_aload_n X dX5_moveOn_132 rfl ?_
              refine gp_geti (j := 8) X hR hl cl_X5 lk_X5_37 rfl (by decide) rfl rfl dX5_moveOn_133 (fun x133 e133 => ?_)
              refine g_aload X dX5_moveOn_136 rfl ?_
              refine g_aload_n X dX5_moveOn_138 rfl ?_
              refine gp_geti (j := 4) X hR hl cl_X5 lk_X5_54 rfl (by decide) rfl rfl dX5_moveOn_139 (fun x139 e139 => ?_)
              refine gp_V X RM lm_X5_74 (c_X0_forceFor G hR hl31) cl_X0 hR hl31 rfl rfl rfl (Nat.le_of_ble_eq_true rfl) (by decide) (by decide) dX5_moveOn_142 (fun v hz q => ?_) (fun _ _ q => q.elim)
              obtain ⟨x142, rfl, e142, rfl⟩ := q
              refine GJ.seq (st' := [.int x142, .int x133, .ref (ad 5 r i)]) rfl ?_
              refine gp_max X RM lm_X5_77 ⟨Nat.le_of_ble_eq_true rfl, Nat.le_of_ble_eq_true rfl⟩ ⟨Nat.le_of_ble_eq_true rfl, Nat.le_of_ble_eq_true rfl⟩ dX5_moveOn_145 (fun x145 e145 => ?_)
              refine gp_puti (j := 8) X hR hl cl_X5 lk_X5_37 rfl (by decide) rfl (by decide) rfl rfl rfl dX5_moveOn_148 (fun h hR => ?_)
              refine g_return X E dX5_moveOn_151 (by decide) (by decide) ?_
              first
              | exact ⟨rfl, _, hR, Or.inr (Or.inl rfl)⟩
              | (subst e85; exact ⟨rfl, _, hR, Or.inr (Or.inr (Or.inl ⟨(bz e73).2.mp c76, rfl⟩))⟩)
              | (subst e100; exact ⟨rfl, _, hR, Or.inr (Or.inr (Or.inr ⟨(bz e73).1.mp c76, _, _, _, rfl⟩))⟩)
            · skip
              refine g_iconst (v := 1) X dX5_moveOn_123 (by decide) ?_
              refine g_goto 128 X dX5_moveOn_124 (by decide) ?_
              refine gp_puti (j := 7) X hR hl cl_X5 lk_X5_40 rfl (by decide) rfl (by decide) rfl (by decide) (by decide) dX5_moveOn_128 (fun h hR => ?_)
              refine g_aload_n X dX5_moveOn_131 rfl ?_
              refine g_aload_n X dX5_moveOn_132 rfl ?_
              refine gp_geti (j := 8) X hR hl cl_X5 lk_X5_37 rfl (by decide) rfl rfl dX5_moveOn_133 (fun x133 e133 => ?_)
              refine g_aload X dX5_moveOn_136 rfl ?_
              refine g_aload_n X dX5_moveOn_138 rfl ?_
              refine gp_geti (j := 4) X hR hl cl_X5 lk_X5_54 rfl (by decide) rfl rfl dX5_moveOn_139 (fun x139 e139 => ?_)
              refine gp_V X RM lm_X5_74 (c_X0_forceFor G hR hl31) cl_X0 hR hl31 rfl rfl rfl (Nat.le_of_ble_eq_true rfl) (by decide) (by decide) dX5_moveOn_142 (fun v hz q => ?_) (fun _ _ q => q.elim)
              obtain ⟨x142, rfl, e142, rfl⟩ := q
              refine GJ.seq (st' := [.int x142, .int x133, .ref (ad 5 r i)]) rfl ?_
              refine gp_max X RM lm_X5_77 ⟨Nat.le_of_ble_eq_true rfl, Nat.le_of_ble_eq_true rfl⟩ ⟨Nat.le_of_ble_eq_true rfl, Nat.le_of_ble_eq_true rfl⟩ dX5_moveOn_145 (fun x145 e145 => ?_)
              refine gp_puti (j := 8) X hR hl cl_X5 lk_X5_37 rfl (by decide) rfl (by decide) rfl rfl rfl dX5_moveOn_148 (fun h hR => ?_)
              refine g_return X E dX5_moveOn_151 (by decide) (by decide) ?_
              first
              | exact ⟨rfl, _, hR, Or.inr (Or.inl rfl)⟩
              | (subst e85; exact ⟨rfl, _, hR, Or.inr (Or.inr (Or.inl ⟨(bz e73).2.mp c76, rfl⟩))⟩)
              | (subst e100; exact ⟨rfl, _, hR, Or.inr (Or.inr (Or.inr ⟨(bz e73).1.mp c76, _, _, _, rfl⟩))⟩)
          · skip
            refine g_aload_n X dX5_moveOn_79 rfl ?_
            refine g_aload_n X dX5_moveOn_80 rfl ?_
            refine g_aload_n X dX5_moveOn_81 rfl ?_
            refine gp_geti (j := 3) X hR hl cl_X5 lk_X5_9 rfl (by decide) rfl rfl dX5_moveOn_82 (fun x82 e82 => ?_)
            refine gp_V X RM lm_X5_50 (c_X4_next G hR hlR hB (e82.trans hb) hbn) cl_X4 hR hlR rfl rfl rfl (Nat.le_of_ble_eq_true rfl) (by decide) (by decide) dX5_moveOn_85 (fun v hz q => ?_) (fun _ _ q => q.elim)
            obtain ⟨x85, rfl, e85, rfl⟩ := q
            refine GJ.seq (st' := [.int x85, .ref (ad 5 r i)]) rfl ?_
            refine gp_V X RM lm_X5_67 (c_X5_standIn G hR hl hT) cl_X5 hR hl rfl rfl rfl (Nat.le_of_ble_eq_true rfl) (by decide) (by decide) dX5_moveOn_88 (fun v hz q => ?_) (fun _ _ q => q.elim)
            obtain ⟨rfl, _, hR, rfl⟩ := q
            refine GJ.seq (st' := []) rfl ?_
            refine g_goto 151 X dX5_moveOn_91 (by decide) ?_
            refine g_return X E dX5_moveOn_151 (by decide) (by decide) ?_
            first
            | exact ⟨rfl, _, hR, Or.inr (Or.inl rfl)⟩
            | (subst e85; exact ⟨rfl, _, hR, Or.inr (Or.inr (Or.inl ⟨(bz e73).2.mp c76, rfl⟩))⟩)
            | (subst e100; exact ⟨rfl, _, hR, Or.inr (Or.inr (Or.inr ⟨(bz e73).1.mp c76, _, _, _, rfl⟩))⟩)
        · skip
          refine g_aload_n X dX5_moveOn_62 rfl ?_
          refine g_bipush (v := 120) X dX5_moveOn_63 (by decide) ?_
          refine gp_puti (j := 5) X hR hl cl_X5 lk_X5_15 rfl (by decide) rfl (by decide) rfl (by decide) (by decide) dX5_moveOn_65 (fun h hR => ?_)
          refine g_goto 151 X dX5_moveOn_68 (by decide) ?_
          refine g_return X E dX5_moveOn_151 (by decide) (by decide) ?_
          first
          | exact ⟨rfl, _, hR, Or.inr (Or.inl rfl)⟩
          | (subst e85; exact ⟨rfl, _, hR, Or.inr (Or.inr (Or.inl ⟨(bz e73).2.mp c76, rfl⟩))⟩)
          | (subst e100; exact ⟨rfl, _, hR, Or.inr (Or.inr (Or.inr ⟨(bz e73).1.mp c76, _, _, _, rfl⟩))⟩)
      · skip
        exact absurd e28 (f31 _ (fNx_lt hbn))
    · skip
      exact absurd (e15.trans hb) (f18 _ hbn)
  · skip
    refine g_aload_n X dX5_moveOn_7 rfl ?_
    refine g_iconst (v := 0) X dX5_moveOn_8 (by decide) ?_
    refine gp_puti (j := 7) X hR hl cl_X5 lk_X5_40 rfl (by decide) rfl (by decide) rfl (by decide) (by decide) dX5_moveOn_9 (fun h hR => ?_)
    refine g_return X E dX5_moveOn_12 (by decide) (by decide) ?_
    exact ⟨rfl, _, hR, Or.inl rfl⟩
end GTRAIN
end
