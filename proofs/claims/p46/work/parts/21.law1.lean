/-! the law's small methods; contracts that know of the argument's array -/
section GLAW1
variable {Z : gEnv} {Γ : gCtx} {cc : ByteArray} {own : String} {nL : Nat} {ret : Option FieldType} {h : gH} {k n pc : Nat} {lv lv' : List (Nat × Value)} {st st' : List Value} {t N : Nat} {f : Nat → Int32}
abbrev gArg (Z : gEnv) (t N : Nat) (f : Nat → Int32) (U : State) (H : Heap) : Prop := va_T .int t N (fun j => .int (f j)) (gA Z) U H
def gPcA (Z : gEnv) (av : List Value) (h : gH) (t N : Nat) (f : Nat → Int32) : Array Value → State → Prop := fun a U => gPc Z av h a U ∧ gArg Z t N f U U.heap
/-- of a method that is told the argument's array: t its address, N its length, f its numbers -/
def gMetA (Z : gEnv) (y : MethodName) (cc : ByteArray) (nL : Nat) (ret : Option FieldType) (d mc ms : Nat) (av : List Value) (h : gH) (t N : Nat) (f : Nat → Int32) (Q : Option Value → gH → Prop) (QX : String → gH → Prop) : Prop :=
  vx_Met Z.2.2.2.2 y (gWS y cc nL ret) (gRm d mc ms) (gPcA Z av h t N f) (gQc Z Q) (gXC Z QX) mc ms (gA Z)
theorem gPcA_blind {av : List Value} : FrameBlind (gPcA Z av h t N f) := fun a U g mk q => ⟨gPc_blind a U g mk q.1, va_T.moved (u := U) (U := U.calling g mk a) (Vm.Alike.refl U.vm) q.2⟩
theorem g_enterA {y : MethodName} {d mc ms : Nat} {av : List Value} {Q : Option Value → gH → Prop} {QX : String → gH → Prop} (hl : Z.2.2.2.2.stackTraces = false) (hy : plainName y.cls = true) (hn : (lg_sl av).length ≤ nL) (hlv : lv_args 0 av = lv)
    (body : ∀ Γ : gCtx, gOK Z Γ cc y.cls nL ret → gNoTab Γ → gEnd Z Γ mc ms Q QX → Γ.2.2.1 = gRm d mc ms → gArg Z t N f Γ.2.2.2.1 Γ.2.2.2.1.heap → GJ Z Γ h 0 0 0 lv []) : gMetA Z y cc nL ret d mc ms av h t N f Q QX := by
  subst hlv
  refine vx_ofW hy rfl ?_
  intro p e s m args below meth c s₁ B hml htab hv
  obtain ⟨⟨rfl, hw, hK, hst, hsz⟩, hA⟩ := hv
  have hts := atoms_spec (ws := gWS y cc nL ret) B.pre
  have hl0 := lv_entry av (n := nL) hn
  rw [lg_entry_eq]
  have X : gOK Z (p, e, gRm d mc ms, s, m, av.toArray, below, meth, c, nL, vx_MQ below (gQc Z Q) (gXC Z QX) av.toArray s mc ms (gA Z)) cc y.cls nL ret := ⟨B.exec, B.bytes, hml, rfl, findClass_of_methodNamed B.named, fun w hw => hts w (List.mem_cons_of_mem _ hw), B.notSynchronized, B.returns, hl, hK, hst, hsz⟩
  exact body (p, e, gRm d mc ms, s, m, av.toArray, below, meth, c, nL, vx_MQ below (gQc Z Q) (gXC Z QX) av.toArray s mc ms (gA Z)) X htab rfl rfl hA s.heap [] _ hw va_S.rf hl0
theorem ga_ti {i : Int32} (X : gOK Z Γ cc own nL ret) (hA : gArg Z t N f Γ.2.2.2.1 Γ.2.2.2.1.heap) (hin : vp_in i N) (d : decode cc pc = .ok (.iaload, 1)) (kk : ∀ z : Int32, z = f i.toNatClampNeg → GJ Z Γ h k n (pc + 1) lv (.int z :: st)) : GJ Z Γ h k n pc lv (.int i :: .ref t :: st) := fun H locs ls hw hS hl => va_ti X.exec X.bytes hA hS hin rfl d (kk _ rfl H locs ls hw hS hl)
theorem ga_tlen {v : Int32} (X : gOK Z Γ cc own nL ret) (hA : gArg Z t N f Γ.2.2.2.1 Γ.2.2.2.1.heap) (hv : Int32.ofNat N = v) (d : decode cc pc = .ok (.arraylength, 1)) (kk : GJ Z Γ h k n (pc + 1) lv (.int v :: st)) : GJ Z Γ h k n pc lv (.ref t :: st) := fun H locs ls hw hS hl => va_tlen X.exec X.bytes hA hS hv d (kk H locs ls hw hS hl)
theorem g_callSA {idx na n' d mc ms : Nat} {y : MethodName} {bytes : ByteArray} {ret' : Option FieldType} {As rest : List Value} {Q : Option Value → gH → Prop} {QX : String → gH → Prop}
    (X : gOK Z Γ cc own nL ret) (hA : gArg Z t N f Γ.2.2.2.1 Γ.2.2.2.1.heap) (L : gLS own idx y bytes n' ret' na) (hM : gMetA Z y bytes n' ret' d mc ms As h t N f Q QX) (hna : As.length = na) (hst : st = As.reverse ++ rest) (hcat : (rest.map fun v => v.category).sum ≤ 8)
    (hR : d + 1 ≤ Γ.2.2.1.frames ∧ 8 + (n' + 11) + 50 * d ≤ Γ.2.2.1.locals) (hf : k + mc ≤ Γ.2.2.1.cells ∧ n + ms ≤ Γ.2.2.1.slots) (dd : decode cc pc = .ok (.invokestatic idx, 3))
    (kk : ∀ (v : Option Value) (h' : gH), Q v h' → GJ Z Γ h' (k + mc) (n + ms) (pc + 3) lv (v.toList ++ rest)) (kx : ∀ (E : String) (h' : gH), QX E h' → GX Z Γ h' (k + mc) (n + ms) pc lv rest E) : GJ Z Γ h k n pc lv st := by
  subst hst
  obtain ⟨l1, l2, l3, l4, l5⟩ := L
  refine g_back (rest := rest) (As' := As.toArray) (fun H locs ls hw hS hl => ?_) kk kx
  have hG : GoodIn gT (wsS own idx y (gWS y bytes n' ret')) := by
    intro w hw
    unfold wsS at hw
    rcases List.mem_append.mp hw with hw | hw
    · simp only [List.mem_cons, List.not_mem_nil, or_false] at hw
      rcases hw with rfl | rfl | rfl
      · exact gWS_in l1
      · exact gWS_in l2
      · exact gWS_in l3
    · exact gWS_good l4 w hw
  exact vx_runS (n := na) ⟨X.exec, X.bytes, X.maxl, X.ow, X.wds⟩ hM (cwS na X.wds hG rfl rfl rfl l5 hR) ⟨gPcA_blind, fun U hU hW => ⟨gPc_at X hw hS U hU hW, by rw [hU]; exact (hA.kept hS.2.1).moved hW.alike⟩⟩ rfl hna (hl.1.trans X.nl) rfl (by rw [show JFrame.monitorRoom (F0 Γ.2.2.2.2.1 pc ls (As.reverse ++ rest)) = 0 from rfl]; omega) dd hf
theorem lcc_L_7 : Cond.constant RL 7 69069 ∈ gT := gT_at 112 (by decide +kernel) (by decide +kernel)
theorem lcc_L_8 : Cond.constant RL 8 1103515245 ∈ gT := gT_at 113 (by decide +kernel) (by decide +kernel)
set_option maxHeartbeats 4000000 in
set_option maxRecDepth 100000 in
theorem c_L_cell (G : gG Z) {i : Nat} (hi : i < 2000) (hN : N ≤ 2000) : gMetA Z yL_cell cL_cell 3 (some .int) 1 0 0 [.ref t, .int (nI i)] h t N f (qI h (fun _ => True)) qN := by
  refine g_enterA (lv := [(0, .ref t), (1, .int (nI i))]) G.2 (by decide +kernel) (Nat.le_of_ble_eq_true rfl) rfl (fun Γ X Nt E RM hA => ?_)
  refine g_ldc X dL_cell_0 lcc_L_7 ?_
  refine g_iload_n X dL_cell_2 rfl ?_
  refine g_aload_n X dL_cell_3 rfl ?_
  refine ga_tlen X hA rfl dL_cell_4 ?_
  refine g_icmp_ge 14 X dL_cell_5 (by decide) (fun c5 => ?_) (fun c5 => ?_)
  · skip
    refine g_iconst (v := 0) X dL_cell_14 (by decide) ?_
    refine g_sipush (v := 1009) X dL_cell_15 (by decide) ?_
    refine g_iload_n X dL_cell_18 rfl ?_
    refine g_imul X dL_cell_19 (fun x19 e19 => ?_)
    refine g_iadd X dL_cell_20 (fun x20 e20 => ?_)
    refine g_imul X dL_cell_21 (fun x21 e21 => ?_)
    refine g_sipush (v := 12345) X dL_cell_22 (by decide) ?_
    refine g_iadd X dL_cell_25 (fun x25 e25 => ?_)
    refine g_istore_n (lv' := [(2, .int x25), (0, .ref t), (1, .int (nI i))]) X dL_cell_26 (by decide) rfl ?_
    refine g_iload_n X dL_cell_27 rfl ?_
    refine g_iload_n X dL_cell_28 rfl ?_
    refine g_bipush (v := 13) X dL_cell_29 (by decide) ?_
    refine g_iushr X dL_cell_31 (fun x31 e31 => ?_)
    refine g_ixor X dL_cell_32 (fun x32 e32 => ?_)
    refine g_ldc X dL_cell_33 lcc_L_8 ?_
    refine g_imul X dL_cell_35 (fun x35 e35 => ?_)
    refine g_istore_n (lv' := [(2, .int x35), (0, .ref t), (1, .int (nI i))]) X dL_cell_36 (by decide) rfl ?_
    refine g_iload_n X dL_cell_37 rfl ?_
    refine g_iload_n X dL_cell_38 rfl ?_
    refine g_bipush (v := 16) X dL_cell_39 (by decide) ?_
    refine g_iushr X dL_cell_41 (fun x41 e41 => ?_)
    refine g_ixor X dL_cell_42 (fun x42 e42 => ?_)
    refine g_ireturn X E rfl dL_cell_43 (by decide) (by decide) ?_
    exact ⟨_, rfl, trivial, rfl⟩
  · skip
    have hiN : i < N := (nI_ltI (by omega) (by omega)).mp c5
    refine g_aload_n X dL_cell_8 rfl ?_
    refine g_iload_n X dL_cell_9 rfl ?_
    refine ga_ti X hA (vp_in_nI hiN (by omega)) dL_cell_10 (fun x10 e10 => ?_)
    refine g_goto 15 X dL_cell_11 (by decide) ?_
    refine g_sipush (v := 1009) X dL_cell_15 (by decide) ?_
    refine g_iload_n X dL_cell_18 rfl ?_
    refine g_imul X dL_cell_19 (fun x19 e19 => ?_)
    refine g_iadd X dL_cell_20 (fun x20 e20 => ?_)
    refine g_imul X dL_cell_21 (fun x21 e21 => ?_)
    refine g_sipush (v := 12345) X dL_cell_22 (by decide) ?_
    refine g_iadd X dL_cell_25 (fun x25 e25 => ?_)
    refine g_istore_n (lv' := [(2, .int x25), (0, .ref t), (1, .int (nI i))]) X dL_cell_26 (by decide) rfl ?_
    refine g_iload_n X dL_cell_27 rfl ?_
    refine g_iload_n X dL_cell_28 rfl ?_
    refine g_bipush (v := 13) X dL_cell_29 (by decide) ?_
    refine g_iushr X dL_cell_31 (fun x31 e31 => ?_)
    refine g_ixor X dL_cell_32 (fun x32 e32 => ?_)
    refine g_ldc X dL_cell_33 lcc_L_8 ?_
    refine g_imul X dL_cell_35 (fun x35 e35 => ?_)
    refine g_istore_n (lv' := [(2, .int x35), (0, .ref t), (1, .int (nI i))]) X dL_cell_36 (by decide) rfl ?_
    refine g_iload_n X dL_cell_37 rfl ?_
    refine g_iload_n X dL_cell_38 rfl ?_
    refine g_bipush (v := 16) X dL_cell_39 (by decide) ?_
    refine g_iushr X dL_cell_41 (fun x41 e41 => ?_)
    refine g_ixor X dL_cell_42 (fun x42 e42 => ?_)
    refine g_ireturn X E rfl dL_cell_43 (by decide) (by decide) ?_
    exact ⟨_, rfl, trivial, rfl⟩
theorem i_shr8 (x : Int32) : ∃ j : Nat, j < 2 ^ 24 ∧ (x.toUInt32 >>> ((8 : Int32).toUInt32 &&& Int32.toUInt32 31)).toInt32 = nI j := by
  obtain ⟨n, hn, rfl⟩ : ∃ n : Nat, n < 2 ^ 32 ∧ x = nI n := ⟨x.toBitVec.toNat, x.toBitVec.isLt, Int32.toBitVec_inj.mp (by show x.toBitVec = BitVec.ofNat 32 _; rw [BitVec.ofNat_toNat, BitVec.setWidth_eq])⟩
  exact ⟨n / 2 ^ 8, by omega, pk_ushrN hn 8 8 (by decide)⟩
set_option maxHeartbeats 4000000 in
set_option maxRecDepth 100000 in
theorem c_L_pick (G : gG Z) {i m : Nat} (hi : i < 2000) (hN : N ≤ 2000) (h0 : 0 < m) (hm : m < 1000) : gMetA Z yL_pick cL_pick 3 (some .int) 2 0 0 [.ref t, .int (nI i), .int (nI m)] h t N f (qI h (fun x => ∃ j : Nat, j < m ∧ x = nI j)) qN := by
  refine g_enterA (lv := [(0, .ref t), (1, .int (nI i)), (2, .int (nI m))]) G.2 (by decide +kernel) (Nat.le_of_ble_eq_true rfl) rfl (fun Γ X Nt E RM hA => ?_)
  refine g_aload_n X dL_pick_0 rfl ?_
  refine g_iload_n X dL_pick_1 rfl ?_
  refine g_callSA X hA lm_L_9 (c_L_cell G hi hN) rfl rfl (Nat.le_of_ble_eq_true rfl) (by rw [RM]; exact ⟨Nat.le_of_ble_eq_true rfl, Nat.le_of_ble_eq_true rfl⟩) (by rw [RM]; exact ⟨Nat.le_of_ble_eq_true rfl, Nat.le_of_ble_eq_true rfl⟩) dL_pick_2 (fun v hz q => ?_) (fun _ _ q => q.elim)
  obtain ⟨x2, rfl, e2, rfl⟩ := q
  refine GJ.seq (st' := [.int x2]) rfl ?_
  refine g_bipush (v := 8) X dL_pick_5 (by decide) ?_
  refine g_iushr X dL_pick_7 (fun x7 e7 => ?_)
  obtain ⟨j, hj, ej⟩ := i_shr8 x2
  refine g_iload_n X dL_pick_8 rfl ?_
  refine g_irem X dL_pick_9 (nI_ne0 h0 (by omega)) (fun x9 e9 => ?_)
  refine g_ireturn X E rfl dL_pick_10 (by decide) (by decide) ?_
  refine ⟨_, rfl, ⟨j % m, Nat.mod_lt _ h0, ?_⟩, rfl⟩
  rw [e9, e7, ej]
  exact pk_rem (by omega) h0 (by omega)
set_option maxHeartbeats 4000000 in
set_option maxRecDepth 100000 in
theorem c_L_told {Z : gEnv} {ad : gAd} {P : gP} {h : gH} (G : gG Z) (hR : gRep Z ad P h) {x : Int32} : gMet Z yL_told cL_told 1 ((Option.some FieldType.int)) 1 0 0 [.int x] h (qI h (fun y => y = if x = 0 then 0 else 1)) (qN) := by
  refine g_enter (lv := [(0, .int x)]) G.2 (by decide +kernel) (Nat.le_of_ble_eq_true rfl) rfl (fun Γ X Nt E RM => ?_)
  refine g_iload_n X dL_told_0 rfl ?_
  refine g_if_eq 8 X dL_told_1 (by decide) (fun c1 => ?_) (fun c1 => ?_)
  · skip
    refine g_iconst (v := 0) X dL_told_8 (by decide) ?_
    refine g_ireturn X E rfl dL_told_9 (by decide) (by decide) ?_
    exact ⟨_, rfl, by simp_all, rfl⟩
  · skip
    refine g_iconst (v := 1) X dL_told_4 (by decide) ?_
    refine g_goto 9 X dL_told_5 (by decide) ?_
    refine g_ireturn X E rfl dL_told_9 (by decide) (by decide) ?_
    exact ⟨_, rfl, by simp_all, rfl⟩
end GLAW1
