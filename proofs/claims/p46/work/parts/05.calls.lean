/-! calls and throws of GJ -/
section GCALLS
variable {Z : gEnv} {Γ : gCtx} {cc : ByteArray} {own : String} {nL : Nat} {ret : Option FieldType} {h : gH} {k n pc : Nat} {lv lv' : List (Nat × Value)} {st : List Value}
theorem g_back {As' : Array Value} {mc ms : Nat} {rest : List Value} {Q : Option Value → gH → Prop} {QX : String → gH → Prop}
    (hr : ∀ (H : Heap) (locs : List Loc) (ls : Array Slot), gWd Z h H → va_S (gA Z) Γ.2.2.2.1.heap H locs → lv_has ls Γ.2.2.2.2.2.2.2.2.2.1 lv → vx_Run Γ.1 Z.2.2.2.2 Γ.2.1 Γ.2.2.1 Γ.2.2.2.1 Γ.2.2.2.2.1 Γ.2.2.2.2.2.1 Γ.2.2.2.2.2.2.1 Γ.2.2.2.2.2.2.2.1 Γ.2.2.2.2.2.2.2.2.1 H locs k n mc ms (F0 Γ.2.2.2.2.1 pc ls st) rest ((gQc Z Q) As') (gXC Z QX) (gA Z))
    (kk : ∀ (v : Option Value) (h' : gH), Q v h' → GJ Z Γ h' (k + mc) (n + ms) (pc + 3) lv (v.toList ++ rest)) (kx : ∀ (E : String) (h' : gH), QX E h' → GX Z Γ h' (k + mc) (n + ms) pc lv rest E) : GJ Z Γ h k n pc lv st := by
  intro H locs ls hw hS hl T hT XX
  rcases hr H locs ls hw hS hl T hT XX with ⟨v, st₀, t, T', L, h0, X', hL, e1, e2, ⟨⟨v2, h', hv, hq, hw'⟩, hz, hk⟩, stp⟩ | ⟨q, st₀, t, T', L, E, ce, h0, X', hL, e1, e2, ⟨⟨h', hq, hw'⟩, hz, hk⟩, hce, hcv, hcl, stp⟩
  · cases hv
    rw [h0] at hz hk
    obtain ⟨t2, a1, b1⟩ := kk v h' hq T'.heap (locs ++ L) ls (by rw [e1]; exact hw') ⟨Nat.le_trans hS.1 (by rw [e1]; exact hz), fun q h1 h2 => by rw [e1, hk q (Nat.lt_of_lt_of_le h1 hS.1) h2]; exact hS.2.1 q h1 h2, fun q hq => by
      rcases List.mem_append.mp hq with h | h
      · exact hS.2.2 q h
      · exact hL q h⟩ hl T' rfl X'
    exact ⟨t2, stp t2 a1, b1⟩
  · rw [h0] at hz hk
    obtain ⟨t2, a1, b1⟩ := kx E h' hq T'.heap (locs ++ L) ls q ce (by rw [e1]; exact hw') ⟨Nat.le_trans hS.1 (by rw [e1]; exact hz), fun q h1 h2 => by rw [e1, hk q (Nat.lt_of_lt_of_le h1 hS.1) h2]; exact hS.2.1 q h1 h2, fun q hq => by
      rcases List.mem_append.mp hq with h | h
      · exact hS.2.2 q h
      · exact hL q h⟩ hl (by rw [e1]; exact hce) hcv hcl T' rfl X'
    exact ⟨t2, stp.trans a1, b1⟩
theorem g_backI {As' : Array Value} {mc ms : Nat} {rest : List Value} {Q : Option Value → gH → Prop}
    (hr : ∀ (H : Heap) (locs : List Loc) (ls : Array Slot), gWd Z h H → va_S (gA Z) Γ.2.2.2.1.heap H locs → lv_has ls Γ.2.2.2.2.2.2.2.2.2.1 lv → va_Run Γ.1 Z.2.2.2.2 Γ.2.1 Γ.2.2.1 Γ.2.2.2.1 Γ.2.2.2.2.1 Γ.2.2.2.2.2.1 Γ.2.2.2.2.2.2.1 Γ.2.2.2.2.2.2.2.1 Γ.2.2.2.2.2.2.2.2.1 H locs k n mc ms (F0 Γ.2.2.2.2.1 pc ls st) rest ((gQc Z Q) As') (gA Z))
    (kk : ∀ (v : Option Value) (h' : gH), Q v h' → GJ Z Γ h' (k + mc) (n + ms) (pc + 3) lv (v.toList ++ rest)) : GJ Z Γ h k n pc lv st := by
  intro H locs ls hw hS hl T hT XX
  obtain ⟨v, st₀, t, T', L, h0, X', hL, e1, e2, ⟨⟨v2, h', hv, hq, hw'⟩, hz, hk⟩, stp⟩ := hr H locs ls hw hS hl T hT XX
  cases hv
  rw [h0] at hz hk
  obtain ⟨t2, a1, b1⟩ := kk v h' hq T'.heap (locs ++ L) ls (by rw [e1]; exact hw') ⟨Nat.le_trans hS.1 (by rw [e1]; exact hz), fun q h1 h2 => by rw [e1, hk q (Nat.lt_of_lt_of_le h1 hS.1) h2]; exact hS.2.1 q h1 h2, fun q hq => by
      rcases List.mem_append.mp hq with h | h
      · exact hS.2.2 q h
      · exact hL q h⟩ hl T' rfl X'
  exact ⟨t2, stp t2 a1, b1⟩
theorem gPc_at {av : List Value} {H : Heap} {locs : List Loc} (X : gOK Z Γ cc own nL ret) (hw : gWd Z h H) (hS : va_S (gA Z) Γ.2.2.2.1.heap H locs) : ∀ U : State, U.heap = H → Γ.2.2.2.1.WarmedH U.vm → gPc Z av h av.toArray U := fun U hU hW =>
  ⟨rfl, by rw [hU]; exact hw, va_K.moved hW.alike X.K, by rw [hU]; exact gSt_warm hW hS X.stt, by rw [hU]; exact Nat.le_trans X.base hS.1⟩
/-- the words of a call: virtual (or private), static, of a constructor -/
def gLV (own : String) (idx : Nat) (C : String) (y : MethodName) (bytes : ByteArray) (n' : Nat) (ret' : Option FieldType) (na : Nat) : Prop :=
  Cond.methodLink own idx y ∈ gT ∧ Cond.instanceMethod y ∈ gT ∧ Cond.selects C y y ∈ gT ∧ Cond.initialized C ∈ gT ∧ Cond.code y bytes n' ret' ∈ gT ∧ (y.cls = C ∧ y.cls ≠ "java/lang/invoke/MethodHandle" ∧ y.cls ≠ "java/lang/invoke/VarHandle" ∧ (parseMethodDescriptor y.desc).map (fun d => d.parameters.length) = some na)
def gLS (own : String) (idx : Nat) (y : MethodName) (bytes : ByteArray) (n' : Nat) (ret' : Option FieldType) (na : Nat) : Prop :=
  Cond.methodLink own idx y ∈ gT ∧ Cond.static y ∈ gT ∧ Cond.initialized own ∈ gT ∧ Cond.code y bytes n' ret' ∈ gT ∧ (y.cls = own ∧ y.cls ≠ "java/lang/invoke/MethodHandle" ∧ y.cls ≠ "java/lang/invoke/VarHandle" ∧ (parseMethodDescriptor y.desc).map (fun d => d.parameters.length) = some na)
def gLI (own : String) (idx : Nat) (y : MethodName) (bytes : ByteArray) (n' : Nat) (na : Nat) : Prop :=
  Cond.methodLink own idx y ∈ gT ∧ Cond.instanceMethod y ∈ gT ∧ Cond.initialized y.cls ∈ gT ∧ Cond.code y bytes n' none ∈ gT ∧ y.name = "<init>" ∧ (y.cls ≠ "java/lang/invoke/MethodHandle" ∧ y.cls ≠ "java/lang/invoke/VarHandle" ∧ (parseMethodDescriptor y.desc).map (fun d => d.parameters.length) = some na)
/-- of a constructor that is private to a nest mate -/
def gLN (own : String) (idx : Nat) (y : MethodName) (host : String) (bytes : ByteArray) (n' : Nat) (na : Nat) : Prop :=
  Cond.methodLinkNest own idx y host ∈ gB ∧ Cond.instanceMethod y ∈ gT ∧ Cond.initialized y.cls ∈ gT ∧ Cond.code y bytes n' none ∈ gT ∧ y.name = "<init>" ∧ (y.cls ≠ "java/lang/invoke/MethodHandle" ∧ y.cls ≠ "java/lang/invoke/VarHandle" ∧ (parseMethodDescriptor y.desc).map (fun d => d.parameters.length) = some na)
theorem g_callV {idx na n' d mc ms b ci N : Nat} {C : String} {T : u_T} {ty : Nat → FieldType} {fs : List Value} {y : MethodName} {bytes : ByteArray} {ret' : Option FieldType} {As rest : List Value} {Q : Option Value → gH → Prop} {QX : String → gH → Prop}
    (X : gOK Z Γ cc own nL ret) (L : gLV own idx C y bytes n' ret' na) (hM : gMet Z y bytes n' ret' d mc ms (.ref b :: As) h Q QX) (K : gCls ci C T ty N) (hb : h b = some (.inr (ci, fs))) (hna : As.length = na) (hst : st = As.reverse ++ .ref b :: rest) (hcat : (rest.map fun v => v.category).sum ≤ 8)
    (hR : d + 1 ≤ Γ.2.2.1.frames ∧ 8 + (n' + 11) + 50 * d ≤ Γ.2.2.1.locals) (hf : k + mc ≤ Γ.2.2.1.cells ∧ n + ms ≤ Γ.2.2.1.slots) (dd : decode cc pc = .ok (.invokevirtual idx, 3))
    (kk : ∀ (v : Option Value) (h' : gH), Q v h' → GJ Z Γ h' (k + mc) (n + ms) (pc + 3) lv (v.toList ++ rest)) (kx : ∀ (E : String) (h' : gH), QX E h' → GX Z Γ h' (k + mc) (n + ms) pc lv rest E) : GJ Z Γ h k n pc lv st := by
  subst hst
  obtain ⟨l1, l2, l3, l4, l5, l6⟩ := L
  refine g_back (rest := rest) (As' := (Value.ref b :: As).toArray) (fun H locs ls hw hS hl => ?_) kk kx
  have hG : GoodIn gT (wsV own idx C y (gWS y bytes n' ret')) := by
    intro w hw
    unfold wsV at hw
    rcases List.mem_append.mp hw with hw | hw
    · simp only [List.mem_cons, List.not_mem_nil, or_false] at hw
      rcases hw with rfl | rfl | rfl | rfl
      · exact gWS_in l1
      · exact gWS_in l2
      · exact gWS_in l3
      · exact gWS_in l4
    · exact gWS_good l5 w hw
  obtain ⟨r, h1, cell, q1, q2, q3, -⟩ := (hw b _ hb).1
  have hcl : Γ.2.2.2.1.vm.findClass C = some cell.cls := by rw [q2]; exact (X.K.1 ci _ K.1).2.1
  exact vx_runV (n := na) ⟨X.exec, X.bytes, X.maxl, X.ow, X.wds⟩ hM (cwV (C := C) na X.wds hG rfl rfl rfl l6 hR) ⟨gPc_blind, ⟨cell, q1, by rw [q3]; rfl, hcl⟩, gPc_at X hw hS⟩ rfl hna (hl.1.trans X.nl) rfl (by rw [show JFrame.monitorRoom (F0 Γ.2.2.2.2.1 pc ls (As.reverse ++ .ref b :: rest)) = 0 from rfl]; omega) dd hf
theorem g_callS {idx na n' d mc ms : Nat} {y : MethodName} {bytes : ByteArray} {ret' : Option FieldType} {As rest : List Value} {Q : Option Value → gH → Prop} {QX : String → gH → Prop}
    (X : gOK Z Γ cc own nL ret) (L : gLS own idx y bytes n' ret' na) (hM : gMet Z y bytes n' ret' d mc ms As h Q QX) (hna : As.length = na) (hst : st = As.reverse ++ rest) (hcat : (rest.map fun v => v.category).sum ≤ 8)
    (hR : d + 1 ≤ Γ.2.2.1.frames ∧ 8 + (n' + 11) + 50 * d ≤ Γ.2.2.1.locals) (hf : k + mc ≤ Γ.2.2.1.cells ∧ n + ms ≤ Γ.2.2.1.slots) (dd : decode cc pc = .ok (.invokestatic idx, 3))
    (kk : ∀ (v : Option Value) (h' : gH), Q v h' → GJ Z Γ h' (k + mc) (n + ms) (pc + 3) lv (v.toList ++ rest)) (kx : ∀ (E : String) (h' : gH), QX E h' → GX Z Γ h' (k + mc) (n + ms) pc lv rest E) : GJ Z Γ h k n pc lv st := by
  subst hst
  obtain ⟨l1, l2, l3, l4, l5⟩ := L
  refine g_back (rest := rest) (As' := As.toArray) (fun H locs ls hw hS hl => ?_) kk kx
  have hG : GoodIn gT (wsS own idx y (gWS y bytes n' ret')) := by
    intro w hw
    unfold wsS at hw
    rcases List.mem_append.mp hw with hw | hw
    · simp only [List.mem_cons, List.not_mem_nil, or_false] at hw
      rcases hw with rfl | rfl | rfl
      · exact gWS_in l1
      · exact gWS_in l2
      · exact gWS_in l3
    · exact gWS_good l4 w hw
  exact vx_runS (n := na) ⟨X.exec, X.bytes, X.maxl, X.ow, X.wds⟩ hM (cwS na X.wds hG rfl rfl rfl l5 hR) ⟨gPc_blind, gPc_at X hw hS⟩ rfl hna (hl.1.trans X.nl) rfl (by rw [show JFrame.monitorRoom (F0 Γ.2.2.2.2.1 pc ls (As.reverse ++ rest)) = 0 from rfl]; omega) dd hf
theorem g_callI {idx na n' d mc ms b : Nat} {y : MethodName} {bytes : ByteArray} {As rest : List Value} {Q : gH → Prop}
    (X : gOK Z Γ cc own nL ret) (L : gLI own idx y bytes n' na) (hM : gMetI Z y bytes n' d mc ms (.ref b :: As) h Q) (hna : As.length = na) (hst : st = As.reverse ++ .ref b :: rest) (hcat : (rest.map fun v => v.category).sum ≤ 8)
    (hR : d + 1 ≤ Γ.2.2.1.frames ∧ 8 + (n' + 11) + 50 * d ≤ Γ.2.2.1.locals) (hf : k + mc ≤ Γ.2.2.1.cells ∧ n + ms ≤ Γ.2.2.1.slots) (dd : decode cc pc = .ok (.invokespecial idx, 3))
    (kk : ∀ (h' : gH), Q h' → GJ Z Γ h' (k + mc) (n + ms) (pc + 3) lv rest) : GJ Z Γ h k n pc lv st := by
  subst hst
  obtain ⟨l1, l2, l3, l4, l5, l6⟩ := L
  refine g_backI (rest := rest) (As' := (Value.ref b :: As).toArray) (Q := fun v h' => v = none ∧ Q h') (fun H locs ls hw hS hl => ?_) (fun v h' hq => by rw [hq.1]; exact kk h' hq.2)
  exact va_runI (n := na) ⟨X.exec, X.bytes, X.maxl, X.ow, X.wds⟩ hM (cwI na X.wds (gWS_good l4) rfl rfl rfl (X.wd l3) (X.wd l1) (X.wd l2) l5 l6 hR) ⟨gPc_blind, gPc_at X hw hS⟩ rfl hna (hl.1.trans X.nl) rfl (by rw [show JFrame.monitorRoom (F0 Γ.2.2.2.2.1 pc ls (As.reverse ++ .ref b :: rest)) = 0 from rfl]; omega) dd hf
theorem g_callIN {idx na n' d mc ms b : Nat} {y : MethodName} {host : String} {bytes : ByteArray} {As rest : List Value} {Q : gH → Prop}
    (X : gOK Z Γ cc own nL ret) (L : gLN own idx y host bytes n' na) (hM : gMetI Z y bytes n' d mc ms (.ref b :: As) h Q) (hna : As.length = na) (hst : st = As.reverse ++ .ref b :: rest) (hcat : (rest.map fun v => v.category).sum ≤ 8)
    (hR : d + 1 ≤ Γ.2.2.1.frames ∧ 8 + (n' + 11) + 50 * d ≤ Γ.2.2.1.locals) (hf : k + mc ≤ Γ.2.2.1.cells ∧ n + ms ≤ Γ.2.2.1.slots) (dd : decode cc pc = .ok (.invokespecial idx, 3))
    (kk : ∀ (h' : gH), Q h' → GJ Z Γ h' (k + mc) (n + ms) (pc + 3) lv rest) : GJ Z Γ h k n pc lv st := by
  subst hst
  obtain ⟨l1, l2, l3, l4, l5, l6⟩ := L
  refine g_backI (rest := rest) (As' := (Value.ref b :: As).toArray) (Q := fun v h' => v = none ∧ Q h') (fun H locs ls hw hS hl => ?_) (fun v h' hq => by rw [hq.1]; exact kk h' hq.2)
  exact va_runIN (n := na) ⟨X.exec, X.bytes, X.maxl, X.ow, X.wds⟩ hM ⟨va_cnB na X.wds (gWS_good l4) rfl rfl rfl (X.stt.2.2.2.1 _ l1) (X.wd l3) l6 hR, l5, X.wd l2⟩ ⟨gPc_blind, gPc_at X hw hS⟩ rfl hna (hl.1.trans X.nl) rfl (by rw [show JFrame.monitorRoom (F0 Γ.2.2.2.2.1 pc ls (As.reverse ++ .ref b :: rest)) = 0 from rfl]; omega) dd hf
/-- the words of a throw: class, constructor -/
def gThr (own : String) (ik ic : Nat) (cls : String) (names : List String) : Prop :=
  Bundle.fit cls = true ∧ (∀ n ∈ names, Bundle.fit n = true) ∧ Cond.classLink own ik cls ∈ gT ∧ Cond.initialized cls ∈ gT ∧ (∀ w ∈ vx_atS own ic cls names, w ∈ gT ∨ w ∈ gB) ∧ ∀ w ∈ Cond.classLink own ik cls :: Cond.initialized cls :: vx_atS own ic cls names, vx_ot w = true
theorem gB_onT {w : Cond} (hw : w ∈ gB) : w.onTables = true := by
  have := (List.mem_filter.mp hw).2
  cases w <;> first | rfl | (exact absurd this (by simp [gSoft]))
theorem g_throw {ik is ic mc ms : Nat} {cls text : String} {names : List String} {Q : Option Value → gH → Prop} {QX : String → gH → Prop} (X : gOK Z Γ cc own nL ret) (Nt : gNoTab Γ) (E : gEnd Z Γ mc ms Q QX) (TH : gThr own ik ic cls names) (hstr : (own, is, text) ∈ gStrs)
    (d0 : decode cc pc = .ok (.new ik, 3)) (d3 : decode cc (pc + 3) = .ok (.dup, 1)) (d4 : decode cc (pc + 4) = .ok (.ldc is, 2)) (d6 : decode cc (pc + 6) = .ok (.invokespecial ic, 3)) (d9 : decode cc (pc + 9) = .ok (.athrow, 1))
    (hR1 : names.length + 3 < Γ.2.2.1.frames) (hR2 : (st.map fun v => v.category).sum + (13 * (names.length + 1) + 43) ≤ Γ.2.2.1.locals) (hR3 : k + 1 ≤ Γ.2.2.1.cells) (hR4 : n + 6 ≤ Γ.2.2.1.slots) (h1 : k + 1 ≤ mc) (h2 : n + 6 ≤ ms) (hq : QX cls h) : GJ Z Γ h k n pc lv st := by
  intro H locs ls hw hS hl
  obtain ⟨t1, t2, t3, t4, t5, t6⟩ := TH
  obtain ⟨sa, hsa⟩ := X.stt.2.2.1 _ hstr
  unfold gW
  rw [E]
  exact vx_throwS (names := names) (text := text) X.exec X.bytes X.nst X.ow t1 t2 (X.wd t3) (X.wd t4) hsa (fun w hw9 => (t5 w hw9).elim (fun q => X.wd q) (fun q => va_Nw.use (gB_onT q) (X.stt.2.2.2.1 w q))) t6 X.stt.1 X.stt.2.1 hS (by rw [X.maxl]; exact hl.1.trans X.nl) d0 d3 d4 d6 d9 (fun x hx => (Nt x hx).elim) hR1 hR2 hR3 hR4 X.locks
    (fun t ha hz hk => ⟨⟨h, hq, hw.kept hk⟩, Nat.le_trans hS.1 hz, fun q g1 g2 => (hk q (Nat.lt_of_lt_of_le g1 hS.1)).trans (hS.2.1 q g1 g2)⟩) hS.2.2 h1 h2
theorem g_throwW {ik is ic mc ms : Nat} {cls text : String} {names : List String} {Q : Option Value → gH → Prop} {QX : String → gH → Prop} (X : gOK Z Γ cc own nL ret) (Nt : gNoTab Γ) (E : gEnd Z Γ mc ms Q QX) (TH : gThr own ik ic cls names) (hstr : (own, is, text) ∈ gStrs)
    (d0 : decode cc pc = .ok (.new ik, 3)) (d3 : decode cc (pc + 3) = .ok (.dup, 1)) (d4 : decode cc (pc + 4) = .ok (.ldc_w is, 3)) (d7 : decode cc (pc + 7) = .ok (.invokespecial ic, 3)) (d10 : decode cc (pc + 10) = .ok (.athrow, 1))
    (hR1 : names.length + 3 < Γ.2.2.1.frames) (hR2 : (st.map fun v => v.category).sum + (13 * (names.length + 1) + 43) ≤ Γ.2.2.1.locals) (hR3 : k + 1 ≤ Γ.2.2.1.cells) (hR4 : n + 6 ≤ Γ.2.2.1.slots) (h1 : k + 1 ≤ mc) (h2 : n + 6 ≤ ms) (hq : QX cls h) : GJ Z Γ h k n pc lv st := by
  intro H locs ls hw hS hl
  obtain ⟨t1, t2, t3, t4, t5, t6⟩ := TH
  obtain ⟨sa, hsa⟩ := X.stt.2.2.1 _ hstr
  unfold gW
  rw [E]
  exact vx_throwSW (names := names) (text := text) X.exec X.bytes X.nst X.ow t1 t2 (X.wd t3) (X.wd t4) hsa (fun w hw9 => (t5 w hw9).elim (fun q => X.wd q) (fun q => va_Nw.use (gB_onT q) (X.stt.2.2.2.1 w q))) t6 X.stt.1 X.stt.2.1 hS (by rw [X.maxl]; exact hl.1.trans X.nl) d0 d3 d4 d7 d10 (fun x hx => (Nt x hx).elim) hR1 hR2 hR3 hR4 X.locks
    (fun t ha hz hk => ⟨⟨h, hq, hw.kept hk⟩, Nat.le_trans hS.1 hz, fun q g1 g2 => (hk q (Nat.lt_of_lt_of_le g1 hS.1)).trans (hS.2.1 q g1 g2)⟩) hS.2.2 h1 h2
end GCALLS
