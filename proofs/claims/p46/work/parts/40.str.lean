/-! charAt of the law's texts -/
section GSTR
variable {Z : gEnv} {Γ : gCtx} {cc : ByteArray} {own : String} {nL : Nat} {ret : Option FieldType} {h : gH} {k n pc : Nat} {lv lv' : List (Nat × Value)} {st st' : List Value} {a v : Nat} {bs : List Int32}
/-- a text's object and bytes; the two statics that charAt reads -/
def LitF (Z : gEnv) (a v : Nat) (bs : List Int32) (U : State) (H : Heap) : Prop :=
  va_O "java/lang/String" a (gA Z) U H ∧ va_OF "java/lang/String" "coder" "B" (.int 0) a (gA Z) U H ∧ va_OF "java/lang/String" "value" "[B" (.ref v) a (gA Z) U H ∧ va_T .byte v bs.length (fun j => .int (bs.getD j 0)) (gA Z) U H ∧ va_Z "java/lang/String" "COMPACT_STRINGS" "Z" (.int 1) (gA Z) U H ∧ va_Zq "jdk/internal/util/Preconditions" "SIOOBE_FORMATTER" "Ljava/util/function/BiFunction;" (gA Z) U H
theorem LitF.moved {u U : State} {H : Heap} (hvm : u.vm.Alike U.vm) (h : LitF Z a v bs u H) : LitF Z a v bs U H := ⟨h.1.moved hvm, h.2.1.moved hvm, h.2.2.1.moved hvm, h.2.2.2.1.moved hvm, h.2.2.2.2.1.moved hvm, h.2.2.2.2.2.moved hvm⟩
theorem LitF.at {s U : State} {H : Heap} {locs : List Loc} (hW : s.WarmedH U.vm) (hS : va_S (gA Z) s.heap H locs) (h : LitF Z a v bs s s.heap) : LitF Z a v bs U H := LitF.moved hW.alike ⟨h.1.kept hS.2.1, h.2.1.kept hS.2.1, h.2.2.1.kept hS.2.1, h.2.2.2.1.kept hS.2.1, h.2.2.2.2.1.kept hS.2.1, h.2.2.2.2.2.kept hS.2.1⟩
def gPcL (Z : gEnv) (av : List Value) (h : gH) (a v : Nat) (bs : List Int32) : Array Value → State → Prop := fun x U => gPc Z av h x U ∧ LitF Z a v bs U U.heap
theorem gPcL_blind {av : List Value} : FrameBlind (gPcL Z av h a v bs) := fun x U g mk q => ⟨gPc_blind x U g mk q.1, LitF.moved (u := U) (U := U.calling g mk x) (Vm.Alike.refl U.vm) q.2⟩
/-- of a method that is told a text: a its address, v its bytes' -/
def gMetL (Z : gEnv) (y : MethodName) (cc : ByteArray) (nL : Nat) (ret : Option FieldType) (d mc ms : Nat) (av : List Value) (h : gH) (a v : Nat) (bs : List Int32) (Q : Option Value → gH → Prop) (QX : String → gH → Prop) : Prop :=
  vx_Met Z.2.2.2.2 y (gWS y cc nL ret) (gRm d mc ms) (gPcL Z av h a v bs) (gQc Z Q) (gXC Z QX) mc ms (gA Z)
theorem g_enterL {y : MethodName} {d mc ms : Nat} {av : List Value} {Q : Option Value → gH → Prop} {QX : String → gH → Prop} (hl : Z.2.2.2.2.stackTraces = false) (hy : plainName y.cls = true) (hn : (lg_sl av).length ≤ nL) (hlv : lv_args 0 av = lv)
    (body : ∀ Γ : gCtx, gOK Z Γ cc y.cls nL ret → gNoTab Γ → gEnd Z Γ mc ms Q QX → Γ.2.2.1 = gRm d mc ms → LitF Z a v bs Γ.2.2.2.1 Γ.2.2.2.1.heap → GJ Z Γ h 0 0 0 lv []) : gMetL Z y cc nL ret d mc ms av h a v bs Q QX := by
  subst hlv
  refine vx_ofW hy rfl ?_
  intro p e s m args below meth c s₁ B hml htab hv
  obtain ⟨⟨rfl, hw, hK, hst, hsz⟩, hA⟩ := hv
  have hts := atoms_spec (ws := gWS y cc nL ret) B.pre
  have hl0 := lv_entry av (n := nL) hn
  rw [lg_entry_eq]
  have X : gOK Z (p, e, gRm d mc ms, s, m, av.toArray, below, meth, c, nL, vx_MQ below (gQc Z Q) (gXC Z QX) av.toArray s mc ms (gA Z)) cc y.cls nL ret := ⟨B.exec, B.bytes, hml, rfl, findClass_of_methodNamed B.named, fun w hw => hts w (List.mem_cons_of_mem _ hw), B.notSynchronized, B.returns, hl, hK, hst, hsz⟩
  exact body (p, e, gRm d mc ms, s, m, av.toArray, below, meth, c, nL, vx_MQ below (gQc Z Q) (gXC Z QX) av.toArray s mc ms (gA Z)) X htab rfl rfl hA s.heap [] _ hw va_S.rf hl0
/-- a static method of any class -/
def gLS2 (own : String) (idx : Nat) (y : MethodName) (bytes : ByteArray) (n' : Nat) (ret' : Option FieldType) (na : Nat) : Prop :=
  Cond.methodLink own idx y ∈ gT ∧ Cond.static y ∈ gT ∧ Cond.initialized y.cls ∈ gT ∧ Cond.code y bytes n' ret' ∈ gT ∧ (y.cls ≠ "java/lang/invoke/MethodHandle" ∧ y.cls ≠ "java/lang/invoke/VarHandle" ∧ (parseMethodDescriptor y.desc).map (fun d => d.parameters.length) = some na)
theorem gLS2_good {idx na n' : Nat} {y : MethodName} {bytes : ByteArray} {ret' : Option FieldType} (L : gLS2 own idx y bytes n' ret' na) : GoodIn gT (va_wsS own idx y (gWS y bytes n' ret')) := by
  obtain ⟨l1, l2, l3, l4, l5⟩ := L
  intro w hw
  unfold va_wsS at hw
  rcases List.mem_append.mp hw with hw | hw
  · simp only [List.mem_cons, List.not_mem_nil, or_false] at hw
    rcases hw with rfl | rfl | rfl
    · exact gWS_in l1
    · exact gWS_in l2
    · exact gWS_in l3
  · exact gWS_good l4 w hw
theorem g_callS2 {idx na n' d mc ms : Nat} {y : MethodName} {bytes : ByteArray} {ret' : Option FieldType} {As rest : List Value} {Q : Option Value → gH → Prop} {QX : String → gH → Prop}
    (X : gOK Z Γ cc own nL ret) (L : gLS2 own idx y bytes n' ret' na) (hM : gMet Z y bytes n' ret' d mc ms As h Q QX) (hna : As.length = na) (hst : st = As.reverse ++ rest) (hcat : (rest.map fun v => v.category).sum ≤ 8)
    (hR : d + 1 ≤ Γ.2.2.1.frames ∧ 8 + (n' + 11) + 50 * d ≤ Γ.2.2.1.locals) (hf : k + mc ≤ Γ.2.2.1.cells ∧ n + ms ≤ Γ.2.2.1.slots) (dd : decode cc pc = .ok (.invokestatic idx, 3))
    (kk : ∀ (v : Option Value) (h' : gH), Q v h' → GJ Z Γ h' (k + mc) (n + ms) (pc + 3) lv (v.toList ++ rest)) (kx : ∀ (E : String) (h' : gH), QX E h' → GX Z Γ h' (k + mc) (n + ms) pc lv rest E) : GJ Z Γ h k n pc lv st := by
  subst hst
  refine g_back (rest := rest) (As' := As.toArray) (fun H locs ls hw hS hl => ?_) kk kx
  exact vx_runS (n := na) ⟨X.exec, X.bytes, X.maxl, X.ow, X.wds⟩ hM (va_cwS na X.wds (gLS2_good L) rfl rfl rfl L.2.2.2.2 hR) ⟨gPc_blind, gPc_at X hw hS⟩ rfl hna (hl.1.trans X.nl) rfl (by rw [show JFrame.monitorRoom (F0 Γ.2.2.2.2.1 pc ls (As.reverse ++ rest)) = 0 from rfl]; omega) dd hf
theorem g_callS2L {idx na n' d mc ms : Nat} {y : MethodName} {bytes : ByteArray} {ret' : Option FieldType} {As rest : List Value} {Q : Option Value → gH → Prop} {QX : String → gH → Prop}
    (X : gOK Z Γ cc own nL ret) (hA : LitF Z a v bs Γ.2.2.2.1 Γ.2.2.2.1.heap) (L : gLS2 own idx y bytes n' ret' na) (hM : gMetL Z y bytes n' ret' d mc ms As h a v bs Q QX) (hna : As.length = na) (hst : st = As.reverse ++ rest) (hcat : (rest.map fun v => v.category).sum ≤ 8)
    (hR : d + 1 ≤ Γ.2.2.1.frames ∧ 8 + (n' + 11) + 50 * d ≤ Γ.2.2.1.locals) (hf : k + mc ≤ Γ.2.2.1.cells ∧ n + ms ≤ Γ.2.2.1.slots) (dd : decode cc pc = .ok (.invokestatic idx, 3))
    (kk : ∀ (v : Option Value) (h' : gH), Q v h' → GJ Z Γ h' (k + mc) (n + ms) (pc + 3) lv (v.toList ++ rest)) (kx : ∀ (E : String) (h' : gH), QX E h' → GX Z Γ h' (k + mc) (n + ms) pc lv rest E) : GJ Z Γ h k n pc lv st := by
  subst hst
  refine g_back (rest := rest) (As' := As.toArray) (fun H locs ls hw hS hl => ?_) kk kx
  exact vx_runS (n := na) ⟨X.exec, X.bytes, X.maxl, X.ow, X.wds⟩ hM (va_cwS na X.wds (gLS2_good L) rfl rfl rfl L.2.2.2.2 hR) ⟨gPcL_blind, fun U hU hW => ⟨gPc_at X hw hS U hU hW, by rw [hU]; exact hA.at hW hS⟩⟩ rfl hna (hl.1.trans X.nl) rfl (by rw [show JFrame.monitorRoom (F0 Γ.2.2.2.2.1 pc ls (As.reverse ++ rest)) = 0 from rfl]; omega) dd hf
/-- a method of the text itself -/
theorem g_callVL {idx na n' d mc ms : Nat} {y : MethodName} {bytes : ByteArray} {ret' : Option FieldType} {As rest : List Value} {Q : Option Value → gH → Prop} {QX : String → gH → Prop}
    (X : gOK Z Γ cc own nL ret) (hA : LitF Z a v bs Γ.2.2.2.1 Γ.2.2.2.1.heap) (L : gLV own idx "java/lang/String" y bytes n' ret' na) (hM : gMetL Z y bytes n' ret' d mc ms (.ref a :: As) h a v bs Q QX) (hna : As.length = na) (hst : st = As.reverse ++ .ref a :: rest) (hcat : (rest.map fun v => v.category).sum ≤ 8)
    (hR : d + 1 ≤ Γ.2.2.1.frames ∧ 8 + (n' + 11) + 50 * d ≤ Γ.2.2.1.locals) (hf : k + mc ≤ Γ.2.2.1.cells ∧ n + ms ≤ Γ.2.2.1.slots) (dd : decode cc pc = .ok (.invokevirtual idx, 3))
    (kk : ∀ (v : Option Value) (h' : gH), Q v h' → GJ Z Γ h' (k + mc) (n + ms) (pc + 3) lv (v.toList ++ rest)) (kx : ∀ (E : String) (h' : gH), QX E h' → GX Z Γ h' (k + mc) (n + ms) pc lv rest E) : GJ Z Γ h k n pc lv st := by
  subst hst
  obtain ⟨l1, l2, l3, l4, l5, l6⟩ := L
  refine g_back (rest := rest) (As' := (Value.ref a :: As).toArray) (fun H locs ls hw hS hl => ?_) kk kx
  have hG : GoodIn gT (wsV own idx "java/lang/String" y (gWS y bytes n' ret')) := by
    intro w hw
    unfold wsV at hw
    rcases List.mem_append.mp hw with hw | hw
    · simp only [List.mem_cons, List.not_mem_nil, or_false] at hw
      rcases hw with rfl | rfl | rfl | rfl
      · exact gWS_in l1
      · exact gWS_in l2
      · exact gWS_in l3
      · exact gWS_in l4
    · exact gWS_good l5 w hw
  obtain ⟨cell, q1, q2, q3⟩ := va_Orecv hA.1 hS
  exact vx_runV (n := na) ⟨X.exec, X.bytes, X.maxl, X.ow, X.wds⟩ hM (cwV (C := "java/lang/String") na X.wds hG rfl rfl rfl l6 hR) ⟨gPcL_blind, ⟨cell, q1, q2, q3⟩, fun U hU hW => ⟨gPc_at X hw hS U hU hW, by rw [hU]; exact hA.at hW hS⟩⟩ rfl hna (hl.1.trans X.nl) rfl (by rw [show JFrame.monitorRoom (F0 Γ.2.2.2.2.1 pc ls (As.reverse ++ .ref a :: rest)) = 0 from rfl]; omega) dd hf
theorem gs_getf {o nm d : String} {index : Nat} {w : Value} (X : gOK Z Γ cc own nL ret) (hE : va_OF o nm d w a (gA Z) Γ.2.2.2.1 Γ.2.2.2.1.heap) (hlk : Cond.fieldLink own index o nm d ∈ gT) (dd : decode cc pc = .ok (.getfield index, 3)) (kk : GJ Z Γ h k n (pc + 3) lv (w :: st)) : GJ Z Γ h k n pc lv (.ref a :: st) := fun H locs ls hw hS hl => vk_getf X.exec X.bytes hE hS X.ow (X.wd hlk) (fun _ hx => hx) dd (kk H locs ls hw hS hl)
theorem gs_gets {o nm d : String} {index : Nat} {w : Value} (X : gOK Z Γ cc own nL ret) (hZ : va_Z o nm d w (gA Z) Γ.2.2.2.1 Γ.2.2.2.1.heap) (hlk : Cond.fieldLink own index o nm d ∈ gT) (dd : decode cc pc = .ok (.getstatic index, 3)) (kk : GJ Z Γ h k n (pc + 3) lv (w :: st)) : GJ Z Γ h k n pc lv st := fun H locs ls hw hS hl => va_gets X.exec X.bytes hZ hS X.ow (X.wd hlk) (fun _ hx => hx) dd (kk H locs ls hw hS hl)
theorem gs_tlen {ty : FieldType} {N : Nat} {f : Nat → Value} {w : Int32} (X : gOK Z Γ cc own nL ret) (hT : va_T ty v N f (gA Z) Γ.2.2.2.1 Γ.2.2.2.1.heap) (hv : Int32.ofNat N = w) (dd : decode cc pc = .ok (.arraylength, 1)) (kk : GJ Z Γ h k n (pc + 1) lv (.int w :: st)) : GJ Z Γ h k n pc lv (.ref v :: st) := fun H locs ls hw hS hl => va_tlen X.exec X.bytes hT hS hv dd (kk H locs ls hw hS hl)
theorem gs_tb {N : Nat} {f : Nat → Value} {i : Int32} {w : Value} (X : gOK Z Γ cc own nL ret) (hT : va_T .byte v N f (gA Z) Γ.2.2.2.1 Γ.2.2.2.1.heap) (hin : vp_in i N) (hv : f i.toNatClampNeg = w) (dd : decode cc pc = .ok (.baload, 1)) (kk : GJ Z Γ h k n (pc + 1) lv (w :: st)) : GJ Z Γ h k n pc lv (.int i :: .ref v :: st) := fun H locs ls hw hS hl => va_tb X.exec X.bytes hT hS hin hv dd (kk H locs ls hw hS hl)
theorem gs_ldc {tx : String} {index : Nat} (X : gOK Z Γ cc own nL ret) (hZ : vk_R own index tx a Γ.2.2.2.1) (dd : decode cc pc = .ok (.ldc index, 2)) (kk : GJ Z Γ h k n (pc + 2) lv (.ref a :: st)) : GJ Z Γ h k n pc lv st := fun H locs ls hw hS hl => va_ldcS X.exec X.bytes X.ow hZ dd (kk H locs ls hw hS hl)
set_option maxRecDepth 20000 in
theorem lm_J0_492 : gLV RJ0 492 "java/lang/String" yJ0_isLatin1_aae02 cJ0_isLatin1_aae02 1 (some .boolean) 0 := ⟨gT_at 1064 (by decide +kernel) (by decide +kernel), gT_at 1065 (by decide +kernel) (by decide +kernel), gT_at 1066 (by decide +kernel) (by decide +kernel), gT_at 25 (by decide +kernel) (by decide +kernel), gT_at 1067 (by decide +kernel) (by decide +kernel), rfl, by decide +kernel, by decide +kernel, by decide +kernel⟩
theorem lm_J0_495 : gLS2 RJ0 495 yJ1_charAt_3b067 cJ1_charAt_3b067 2 (some .char) 2 := ⟨gT_at 1070 (by decide +kernel) (by decide +kernel), gT_at 1071 (by decide +kernel) (by decide +kernel), gT_at 38 (by decide +kernel) (by decide +kernel), gT_at 1072 (by decide +kernel) (by decide +kernel), by decide +kernel, by decide +kernel, by decide +kernel⟩
theorem lm_J1_9 : gLS2 RJ1 9 yJ0_checkIndex_df160 cJ0_checkIndex_df160 2 none 2 := ⟨gT_at 1073 (by decide +kernel) (by decide +kernel), gT_at 1074 (by decide +kernel) (by decide +kernel), gT_at 25 (by decide +kernel) (by decide +kernel), gT_at 1075 (by decide +kernel) (by decide +kernel), by decide +kernel, by decide +kernel, by decide +kernel⟩
theorem lm_J0_1059 : gLS2 RJ0 1059 yJ3_checkIndex_8e157 cJ3_checkIndex_8e157 3 (some .int) 3 := ⟨gT_at 1078 (by decide +kernel) (by decide +kernel), gT_at 1079 (by decide +kernel) (by decide +kernel), gT_at 39 (by decide +kernel) (by decide +kernel), gT_at 1080 (by decide +kernel) (by decide +kernel), by decide +kernel, by decide +kernel, by decide +kernel⟩
theorem lm_L_218s : gLV RL 218 "java/lang/String" yJ0_charAt_5068e cJ0_charAt_5068e 2 (some .char) 1 := lm_L_218
theorem lk_J0_38 : Cond.fieldLink RJ0 38 "java/lang/String" "COMPACT_STRINGS" "Z" ∈ gT := gT_at 1068 (by decide +kernel) (by decide +kernel)
theorem lk_J0_1053 : Cond.fieldLink RJ0 1053 "jdk/internal/util/Preconditions" "SIOOBE_FORMATTER" "Ljava/util/function/BiFunction;" ∈ gT := gT_at 1076 (by decide +kernel) (by decide +kernel)
theorem lk_J0_15 : Cond.fieldLink RJ0 15 "java/lang/String" "coder" "B" ∈ gT := gT_at 1119 (by decide +kernel) (by decide +kernel)
theorem lk_J0_9 : Cond.fieldLink RJ0 9 "java/lang/String" "value" "[B" ∈ gT := gT_at 1120 (by decide +kernel) (by decide +kernel)
theorem s_isLatin1 (G : gG Z) : gMetL Z yJ0_isLatin1_aae02 cJ0_isLatin1_aae02 1 (some .boolean) 1 0 0 [.ref a] h a v bs (qI h (fun y => y = 1)) qN := by
  refine g_enterL (lv := [(0, .ref a)]) G.2 (by decide +kernel) (Nat.le_of_ble_eq_true rfl) rfl (fun Γ X Nt E RM hA => ?_)
  refine gs_gets X hA.2.2.2.2.1 lk_J0_38 dJ0_isLatin1_aae02_0 ?_
  refine g_if_eq 17 X dJ0_isLatin1_aae02_3 (by decide) (fun c => ?_) (fun c => ?_)
  · exact absurd c (by decide)
  · refine g_aload_n X dJ0_isLatin1_aae02_6 rfl ?_
    refine gs_getf X hA.2.1 lk_J0_15 dJ0_isLatin1_aae02_7 ?_
    refine g_if_ne 17 X dJ0_isLatin1_aae02_10 (by decide) (fun c => ?_) (fun c => ?_)
    · exact absurd rfl c
    · refine g_iconst (v := 1) X dJ0_isLatin1_aae02_13 (by decide) ?_
      refine g_goto 18 X dJ0_isLatin1_aae02_14 (by decide) ?_
      refine g_ireturn X E (by decide) dJ0_isLatin1_aae02_18 (by decide) (by decide) ?_
      exact ⟨_, rfl, rfl, rfl⟩
theorem s_check3 (G : gG Z) {i m : Nat} {w : Value} (hw : w = .null ∨ ∃ q, w = .ref q) (hi : i < m) (hm : m < 2 ^ 31) : gMet Z yJ3_checkIndex_8e157 cJ3_checkIndex_8e157 3 (some .int) 1 0 0 [.int (nI i), .int (nI m), w] h (qI h (fun _ => True)) qN := by
  refine g_enter (lv := [(0, .int (nI i)), (1, .int (nI m)), (2, w)]) G.2 (by decide +kernel) (by rcases hw with rfl | ⟨q, rfl⟩ <;> exact Nat.le_of_ble_eq_true rfl) (by rcases hw with rfl | ⟨q, rfl⟩ <;> rfl) (fun Γ X Nt E RM => ?_)
  refine g_iload_n X dJ3_checkIndex_8e157_0 rfl ?_
  refine g_if_lt 9 X dJ3_checkIndex_8e157_1 (by decide) (fun c => ?_) (fun c => ?_)
  · exact absurd c (nI_pos (by omega))
  · refine g_iload_n X dJ3_checkIndex_8e157_4 rfl ?_
    refine g_iload_n X dJ3_checkIndex_8e157_5 rfl ?_
    refine g_icmp_lt 16 X dJ3_checkIndex_8e157_6 (by decide) (fun c => ?_) (fun c => ?_)
    · refine g_iload_n X dJ3_checkIndex_8e157_16 rfl ?_
      refine g_ireturn X E rfl dJ3_checkIndex_8e157_17 (by decide) (by decide) ?_
      exact ⟨_, rfl, trivial, rfl⟩
    · exact absurd (nI_lt hi hm) c
theorem s_check2 (G : gG Z) {i m : Nat} (hi : i < m) (hm : m < 2 ^ 31) : gMetL Z yJ0_checkIndex_df160 cJ0_checkIndex_df160 2 none 2 0 0 [.int (nI i), .int (nI m)] h a v bs (fun w h2 => w = none ∧ h2 = h) qN := by
  refine g_enterL (lv := [(0, .int (nI i)), (1, .int (nI m))]) G.2 (by decide +kernel) (Nat.le_of_ble_eq_true rfl) rfl (fun Γ X Nt E RM hA => ?_)
  refine g_iload_n X dJ0_checkIndex_df160_0 rfl ?_
  refine g_iload_n X dJ0_checkIndex_df160_1 rfl ?_
  have hz : ∃ w : Value, (w = .null ∨ ∃ q, w = .ref q) ∧ va_Z "jdk/internal/util/Preconditions" "SIOOBE_FORMATTER" "Ljava/util/function/BiFunction;" w (gA Z) Γ.2.2.2.1 Γ.2.2.2.1.heap := by
    rcases hA.2.2.2.2.2 with hz | ⟨q, hz⟩
    · exact ⟨_, Or.inl rfl, hz⟩
    · exact ⟨_, Or.inr ⟨q, rfl⟩, hz⟩
  obtain ⟨w, hw, hz⟩ := hz
  refine gs_gets X hz lk_J0_1053 dJ0_checkIndex_df160_2 ?_
  refine g_callS2 X lm_J0_1059 (s_check3 G hw hi hm) rfl rfl (Nat.le_of_ble_eq_true rfl) (by rw [RM]; exact ⟨Nat.le_of_ble_eq_true rfl, Nat.le_of_ble_eq_true rfl⟩) (by rw [RM]; exact ⟨Nat.le_of_ble_eq_true rfl, Nat.le_of_ble_eq_true rfl⟩) dJ0_checkIndex_df160_5 (fun v2 h2 q => ?_) (fun _ _ q => q.elim)
  obtain ⟨x, rfl, -, rfl⟩ := q
  refine GJ.seq (st' := [.int x]) rfl ?_
  refine g_pop X dJ0_checkIndex_df160_8 rfl ?_
  refine g_return X E dJ0_checkIndex_df160_9 (by decide) (by decide) ?_
  exact ⟨rfl, rfl⟩
theorem s_charL1 (G : gG Z) {i : Nat} (hi : i < bs.length) (hm : bs.length < 2 ^ 31) (hc : (((bs.getD i 0) &&& 255).toUInt32 % 65536).toInt32 = bs.getD i 0) (hn : narrow .char (.int (bs.getD i 0)) = .int (bs.getD i 0)) : gMetL Z yJ1_charAt_3b067 cJ1_charAt_3b067 2 (some .char) 3 0 0 [.ref v, .int (nI i)] h a v bs (qI h (fun y => y = bs.getD i 0)) qN := by
  refine g_enterL (lv := [(0, .ref v), (1, .int (nI i))]) G.2 (by decide +kernel) (Nat.le_of_ble_eq_true rfl) rfl (fun Γ X Nt E RM hA => ?_)
  refine g_iload_n X dJ1_charAt_3b067_0 rfl ?_
  refine g_aload_n X dJ1_charAt_3b067_1 rfl ?_
  refine gs_tlen (w := nI bs.length) X hA.2.2.2.1 rfl dJ1_charAt_3b067_2 ?_
  refine g_callS2L X hA lm_J1_9 (s_check2 G hi hm) rfl rfl (Nat.le_of_ble_eq_true rfl) (by rw [RM]; exact ⟨Nat.le_of_ble_eq_true rfl, Nat.le_of_ble_eq_true rfl⟩) (by rw [RM]; exact ⟨Nat.le_of_ble_eq_true rfl, Nat.le_of_ble_eq_true rfl⟩) dJ1_charAt_3b067_3 (fun v2 h2 q => ?_) (fun _ _ q => q.elim)
  obtain ⟨rfl, rfl⟩ := q
  refine GJ.seq (st' := []) rfl ?_
  refine g_aload_n X dJ1_charAt_3b067_6 rfl ?_
  refine g_iload_n X dJ1_charAt_3b067_7 rfl ?_
  refine gs_tb (w := .int (bs.getD i 0)) X hA.2.2.2.1 (vp_in_nI hi hm) (by rw [nI_clamp (by omega)]) dJ1_charAt_3b067_8 ?_
  refine g_sipush (v := 255) X dJ1_charAt_3b067_9 (by decide) ?_
  refine g_iand X dJ1_charAt_3b067_12 (fun x12 e12 => ?_)
  refine g_i2c X dJ1_charAt_3b067_13 (fun x13 e13 => ?_)
  have e : x13 = bs.getD i 0 := by rw [e13, e12]; exact hc
  refine g_ireturn X E (by rw [e]; exact hn) dJ1_charAt_3b067_14 (by decide) (by decide) ?_
  exact ⟨_, rfl, e, rfl⟩
theorem s_charAt (G : gG Z) {i : Nat} (hi : i < bs.length) (hm : bs.length < 2 ^ 31) (hc : (((bs.getD i 0) &&& 255).toUInt32 % 65536).toInt32 = bs.getD i 0) (hn : narrow .char (.int (bs.getD i 0)) = .int (bs.getD i 0)) : gMetL Z yJ0_charAt_5068e cJ0_charAt_5068e 2 (some .char) 4 0 0 [.ref a, .int (nI i)] h a v bs (qI h (fun y => y = bs.getD i 0)) qN := by
  refine g_enterL (lv := [(0, .ref a), (1, .int (nI i))]) G.2 (by decide +kernel) (Nat.le_of_ble_eq_true rfl) rfl (fun Γ X Nt E RM hA => ?_)
  refine g_aload_n X dJ0_charAt_5068e_0 rfl ?_
  refine g_callVL X hA lm_J0_492 (s_isLatin1 G) rfl rfl (Nat.le_of_ble_eq_true rfl) (by rw [RM]; exact ⟨Nat.le_of_ble_eq_true rfl, Nat.le_of_ble_eq_true rfl⟩) (by rw [RM]; exact ⟨Nat.le_of_ble_eq_true rfl, Nat.le_of_ble_eq_true rfl⟩) dJ0_charAt_5068e_1 (fun v2 h2 q => ?_) (fun _ _ q => q.elim)
  obtain ⟨x, rfl, ex, rfl⟩ := q
  refine GJ.seq (st' := [.int x]) rfl ?_
  refine g_if_eq 16 X dJ0_charAt_5068e_4 (by decide) (fun c => ?_) (fun c => ?_)
  · exact absurd c (by rw [ex]; decide)
  · refine g_aload_n X dJ0_charAt_5068e_7 rfl ?_
    refine gs_getf X hA.2.2.1 lk_J0_9 dJ0_charAt_5068e_8 ?_
    refine g_iload_n X dJ0_charAt_5068e_11 rfl ?_
    refine g_callS2L X hA lm_J0_495 (s_charL1 G hi hm hc hn) rfl rfl (Nat.le_of_ble_eq_true rfl) (by rw [RM]; exact ⟨Nat.le_of_ble_eq_true rfl, Nat.le_of_ble_eq_true rfl⟩) (by rw [RM]; exact ⟨Nat.le_of_ble_eq_true rfl, Nat.le_of_ble_eq_true rfl⟩) dJ0_charAt_5068e_12 (fun v3 h3 q => ?_) (fun _ _ q => q.elim)
    obtain ⟨y, rfl, ey, rfl⟩ := q
    refine GJ.seq (st' := [.int y]) rfl ?_
    refine g_ireturn X E (by rw [ey]; exact hn) dJ0_charAt_5068e_15 (by decide) (by decide) ?_
    exact ⟨_, rfl, ey, rfl⟩
end GSTR
