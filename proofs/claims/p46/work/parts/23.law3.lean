/-! the law's deed: a call whose exceptions are caught; ask, block -/
section GLAW3
variable {Z : gEnv} {Γ : gCtx} {cc : ByteArray} {own : String} {nL : Nat} {ret : Option FieldType} {h : gH} {k n pc : Nat} {lv lv' : List (Nat × Value)} {st st' : List Value}
def gWSH (y : MethodName) (cc : ByteArray) (n : Nat) (ret : Option FieldType) (hh : List (Nat × Nat × Nat × Nat)) : List Cond := Cond.codeWith y cc n ret hh :: gT
/-- of a method with a table of handlers -/
def gMetH (Z : gEnv) (y : MethodName) (cc : ByteArray) (nL : Nat) (ret : Option FieldType) (hh : List (Nat × Nat × Nat × Nat)) (d mc ms : Nat) (av : List Value) (h : gH) (Q : Option Value → gH → Prop) (QX : String → gH → Prop) : Prop :=
  vx_Met Z.2.2.2.2 y (gWSH y cc nL ret hh) (gRm d mc ms) (gPc Z av h) (gQc Z Q) (gXC Z QX) mc ms (gA Z)
theorem g_enterH {y : MethodName} {hh : List (Nat × Nat × Nat × Nat)} {d mc ms : Nat} {av : List Value} {Q : Option Value → gH → Prop} {QX : String → gH → Prop} (hl : Z.2.2.2.2.stackTraces = false) (hy : plainName y.cls = true) (hn : (lg_sl av).length ≤ nL) (hlv : lv_args 0 av = lv)
    (body : ∀ Γ : gCtx, gOK Z Γ cc y.cls nL ret → Γ.2.2.2.2.2.2.2.2.1.exceptionTable.toList = tableOf hh → gEnd Z Γ mc ms Q QX → Γ.2.2.1 = gRm d mc ms → GJ Z Γ h 0 0 0 lv []) : gMetH Z y cc nL ret hh d mc ms av h Q QX := by
  subst hlv
  refine vx_ofWH hy rfl ?_
  intro p e s m args below meth c s₁ B hml hv
  obtain ⟨rfl, hw, hK, hst, hsz⟩ := hv
  have hts := atoms_spec (ws := gWSH y cc nL ret hh) B.pre
  have htab := vx_table (x := y) B (hts _ List.mem_cons_self)
  have hl0 := lv_entry av (n := nL) hn
  rw [lg_entry_eq]
  have X : gOK Z (p, e, gRm d mc ms, s, m, av.toArray, below, meth, c, nL, vx_MQ below (gQc Z Q) (gXC Z QX) av.toArray s mc ms (gA Z)) cc y.cls nL ret := ⟨B.exec, B.bytes, hml, rfl, findClass_of_methodNamed B.named, fun w hw => hts w (List.mem_cons_of_mem _ hw), B.notSynchronized, B.returns, hl, hK, hst, hsz⟩
  exact body (p, e, gRm d mc ms, s, m, av.toArray, below, meth, c, nL, vx_MQ below (gQc Z Q) (gXC Z QX) av.toArray s mc ms (gA Z)) X htab rfl rfl s.heap [] _ hw va_S.rf hl0
theorem g_catch {E name : String} {hh : List (Nat × Nat × Nat × Nat)} (X : gOK Z Γ cc own nL ret) (T : Γ.2.2.2.2.2.2.2.2.1.exceptionTable.toList = tableOf hh) (pre suf : List (Nat × Nat × Nat × Nat)) (x : Nat × Nat × Nat × Nat) (hs : hh = pre ++ x :: suf) (hp : ∀ z ∈ pre, z.2.2.2 ≠ 0 ∧ ∃ nm, Cond.classLink own z.2.2.2 nm ∈ gT ∧ (E, nm) ∈ gNcs) (hc : x.1 ≤ pc ∧ pc < x.2.1) (h0 : x.2.2.2 ≠ 0) (hl : Cond.classLink own x.2.2.2 name ∈ gT) (hca : Cond.castable E name ∈ gB) (kk : ∀ q : Nat, GJ Z Γ h k n x.2.2.1 lv [.ref q]) : GX Z Γ h k n pc lv st E := by
  intro H locs ls q ce hw hS hl' hce hcv hcl
  refine vx_catch (own := own) (name := name) X.ow (tableOf pre) ⟨x.1, x.2.1, x.2.2.1, x.2.2.2⟩ (tableOf suf) (by rw [T, hs]; simp [tableOf]) (fun z hz => Or.inr ?_) (by simp [covers, hc]) h0 (X.wd hl) (va_Nw.use (gB_onT hca) (X.stt.2.2.2.1 _ hca)) hce hcv hcl (kk q H locs ls hw hS hl')
  obtain ⟨y, hy, rfl⟩ := List.mem_map.mp hz
  obtain ⟨p1, nm, p2, p3⟩ := hp y hy
  exact ⟨p1, nm, X.wd p2, X.stt.2.2.2.2.1 _ p3⟩
abbrev eNOS : String := "java/util/NoSuchElementException"
def eAll : List String := [eIDX, eILL, eREF, eNOS, eSTA]
def codeE (E : String) : Int32 := if E = eIDX then -2001 else if E = eILL then -2002 else if E = eREF then -2004 else if E = eNOS then -2005 else -2003
def qDeed (Q : Option Value → gH → Prop) (QX : String → gH → Prop) : Option Value → gH → Prop := fun v h' => Q v h' ∨ ∃ E, QX E h' ∧ v = some (.int (codeE E))
def hhD : List (Nat × Nat × Nat × Nat) := [(0, 31, 32, 150), (0, 31, 38, 152), (0, 31, 44, 154), (0, 31, 50, 156), (0, 31, 56, 158)]
theorem ld_150 : Cond.classLink RL 150 eIDX ∈ gT := gT_at 117 (by decide +kernel) (by decide +kernel)
theorem ld_152 : Cond.classLink RL 152 eILL ∈ gT := gT_at 196 (by decide +kernel) (by decide +kernel)
theorem ld_154 : Cond.classLink RL 154 eREF ∈ gT := gT_at 197 (by decide +kernel) (by decide +kernel)
theorem ld_156 : Cond.classLink RL 156 eNOS ∈ gT := gT_at 198 (by decide +kernel) (by decide +kernel)
theorem ld_158 : Cond.classLink RL 158 eSTA ∈ gT := gT_at 199 (by decide +kernel) (by decide +kernel)
theorem lb_eIDX : Cond.castable eIDX eIDX ∈ gB := List.mem_filter.mpr ⟨List.mem_of_getElem? (i := 335) (by decide +kernel), rfl⟩
theorem lb_eILL : Cond.castable eILL eILL ∈ gB := List.mem_filter.mpr ⟨List.mem_of_getElem? (i := 194) (by decide +kernel), rfl⟩
theorem lb_eREF : Cond.castable eREF eREF ∈ gB := List.mem_filter.mpr ⟨List.mem_of_getElem? (i := 352) (by decide +kernel), rfl⟩
theorem lb_eNOS : Cond.castable eNOS eNOS ∈ gB := List.mem_filter.mpr ⟨List.mem_of_getElem? (i := 968) (by decide +kernel), rfl⟩
theorem lb_eSTA : Cond.castable eSTA eSTA ∈ gB := List.mem_filter.mpr ⟨List.mem_of_getElem? (i := 210) (by decide +kernel), rfl⟩
set_option maxHeartbeats 4000000 in
set_option maxRecDepth 100000 in
theorem c_L_deedD (G : gG Z) {a0 d mc ms : Nat} {w a1 a2 a3 a4 a5 : Int32} {Q : Option Value → gH → Prop} {QX : String → gH → Prop} (hw : w < 30) (hQ : gNum Q) (hX : ∀ E h1, QX E h1 → E ∈ eAll) (hM : gMet Z yL_done cL_done 7 (some .int) d mc ms [.ref a0, .int w, .int a1, .int a2, .int a3, .int a4, .int a5] h Q QX) : gMetH Z yL_deed cL_deed 8 (some .int) hhD (d + 1) mc ms [.ref a0, .int w, .int a1, .int a2, .int a3, .int a4, .int a5] h (qDeed Q QX) qN := by
  refine g_enterH (lv := [(0, .ref a0), (1, .int w), (2, .int a1), (3, .int a2), (4, .int a3), (5, .int a4), (6, .int a5)]) G.2 (by decide +kernel) (Nat.le_of_ble_eq_true rfl) rfl (fun Γ X T E0 RM => ?_)
  refine g_iload_n X dL_deed_0 rfl ?_
  refine g_bipush (v := 30) X dL_deed_1 (by decide) ?_
  refine g_icmp_ge 22 X dL_deed_3 (by decide) (fun c3 => ?_) (fun c3 => ?_)
  · exact absurd hw c3
  · skip
    refine g_aload_n X dL_deed_6 rfl ?_
    refine g_iload_n X dL_deed_7 rfl ?_
    refine g_iload_n X dL_deed_8 rfl ?_
    refine g_iload_n X dL_deed_9 rfl ?_
    refine g_iload X dL_deed_10 rfl ?_
    refine g_iload X dL_deed_12 rfl ?_
    refine g_iload X dL_deed_14 rfl ?_
    refine g_callS X lm_L_142 hM rfl rfl (Nat.le_of_ble_eq_true rfl) (by rw [RM]; show d + 1 ≤ d + 1 ∧ 8 + (7 + 11) + 50 * d ≤ 50 * (d + 1); omega) (by rw [RM]; show 0 + mc ≤ mc ∧ 0 + ms ≤ ms; omega) dL_deed_16 (fun v h1 q => ?_) (fun E1 h1 q => ?_)
    · obtain ⟨x, rfl⟩ := hQ v h1 q
      refine GJ.seq (st' := [.int x]) rfl ?_
      refine g_goto 31 X dL_deed_19 (by decide) ?_
      refine g_ireturn X E0 rfl dL_deed_31 (by omega) (by omega) ?_
      exact Or.inl q
    · have hE := hX E1 h1 q
      simp only [eAll, List.mem_cons, List.not_mem_nil, or_false] at hE
      rcases hE with rfl | rfl | rfl | rfl | rfl
      · refine g_catch (name := eIDX) X T (hhD.take 0) (hhD.drop 1) (0, 31, 32, 150) rfl ?_ (by decide) (by decide) ld_150 lb_eIDX (fun q0 => ?_)
        · intro z hz
          simp only [hhD, List.take, List.mem_cons, List.not_mem_nil, or_false] at hz
        · refine g_astore (lv' := (7, .ref q0) :: [(0, .ref a0), (1, .int w), (2, .int a1), (3, .int a2), (4, .int a3), (5, .int a4), (6, .int a5)]) X dL_deed_32 (by decide) rfl ?_
          refine g_sipush (v := (-2001)) X dL_deed_34 (by decide) ?_
          refine g_ireturn X E0 rfl dL_deed_37 (by omega) (by omega) ?_
          exact Or.inr ⟨_, q, by decide⟩
      · refine g_catch (name := eILL) X T (hhD.take 1) (hhD.drop 2) (0, 31, 38, 152) rfl ?_ (by decide) (by decide) ld_152 lb_eILL (fun q0 => ?_)
        · intro z hz
          simp only [hhD, List.take, List.mem_cons, List.not_mem_nil, or_false] at hz
          rcases hz with rfl
          · exact ⟨by decide, eIDX, ld_150, by simp [gNcs]⟩
        · refine g_astore (lv' := (7, .ref q0) :: [(0, .ref a0), (1, .int w), (2, .int a1), (3, .int a2), (4, .int a3), (5, .int a4), (6, .int a5)]) X dL_deed_38 (by decide) rfl ?_
          refine g_sipush (v := (-2002)) X dL_deed_40 (by decide) ?_
          refine g_ireturn X E0 rfl dL_deed_43 (by omega) (by omega) ?_
          exact Or.inr ⟨_, q, by decide⟩
      · refine g_catch (name := eREF) X T (hhD.take 2) (hhD.drop 3) (0, 31, 44, 154) rfl ?_ (by decide) (by decide) ld_154 lb_eREF (fun q0 => ?_)
        · intro z hz
          simp only [hhD, List.take, List.mem_cons, List.not_mem_nil, or_false] at hz
          rcases hz with rfl | rfl
          · exact ⟨by decide, eIDX, ld_150, by simp [gNcs]⟩
          · exact ⟨by decide, eILL, ld_152, by simp [gNcs]⟩
        · refine g_astore (lv' := (7, .ref q0) :: [(0, .ref a0), (1, .int w), (2, .int a1), (3, .int a2), (4, .int a3), (5, .int a4), (6, .int a5)]) X dL_deed_44 (by decide) rfl ?_
          refine g_sipush (v := (-2004)) X dL_deed_46 (by decide) ?_
          refine g_ireturn X E0 rfl dL_deed_49 (by omega) (by omega) ?_
          exact Or.inr ⟨_, q, by decide⟩
      · refine g_catch (name := eNOS) X T (hhD.take 3) (hhD.drop 4) (0, 31, 50, 156) rfl ?_ (by decide) (by decide) ld_156 lb_eNOS (fun q0 => ?_)
        · intro z hz
          simp only [hhD, List.take, List.mem_cons, List.not_mem_nil, or_false] at hz
          rcases hz with rfl | rfl | rfl
          · exact ⟨by decide, eIDX, ld_150, by simp [gNcs]⟩
          · exact ⟨by decide, eILL, ld_152, by simp [gNcs]⟩
          · exact ⟨by decide, eREF, ld_154, by simp [gNcs]⟩
        · refine g_astore (lv' := (7, .ref q0) :: [(0, .ref a0), (1, .int w), (2, .int a1), (3, .int a2), (4, .int a3), (5, .int a4), (6, .int a5)]) X dL_deed_50 (by decide) rfl ?_
          refine g_sipush (v := (-2005)) X dL_deed_52 (by decide) ?_
          refine g_ireturn X E0 rfl dL_deed_55 (by omega) (by omega) ?_
          exact Or.inr ⟨_, q, by decide⟩
      · refine g_catch (name := eSTA) X T (hhD.take 4) (hhD.drop 5) (0, 31, 56, 158) rfl ?_ (by decide) (by decide) ld_158 lb_eSTA (fun q0 => ?_)
        · intro z hz
          simp only [hhD, List.take, List.mem_cons, List.not_mem_nil, or_false] at hz
          rcases hz with rfl | rfl | rfl | rfl
          · exact ⟨by decide, eIDX, ld_150, by simp [gNcs]⟩
          · exact ⟨by decide, eILL, ld_152, by simp [gNcs]⟩
          · exact ⟨by decide, eREF, ld_154, by simp [gNcs]⟩
          · exact ⟨by decide, eNOS, ld_156, by simp [gNcs]⟩
        · refine g_astore (lv' := (7, .ref q0) :: [(0, .ref a0), (1, .int w), (2, .int a1), (3, .int a2), (4, .int a3), (5, .int a4), (6, .int a5)]) X dL_deed_56 (by decide) rfl ?_
          refine g_sipush (v := (-2003)) X dL_deed_58 (by decide) ?_
          refine g_ireturn X E0 rfl dL_deed_61 (by omega) (by omega) ?_
          exact Or.inr ⟨_, q, by decide⟩
set_option maxHeartbeats 4000000 in
set_option maxRecDepth 100000 in
theorem c_L_deedA (G : gG Z) {a0 d mc ms : Nat} {w a1 a2 a3 a4 a5 : Int32} {Q : Option Value → gH → Prop} {QX : String → gH → Prop} (hw : ¬ w < 30) (hQ : gNum Q) (hX : ∀ E h1, QX E h1 → E ∈ eAll) (hM : gMet Z yL_asked cL_asked 5 (some .int) d mc ms [.ref a0, .int w, .int a1, .int a2, .int a3] h Q QX) : gMetH Z yL_deed cL_deed 8 (some .int) hhD (d + 1) mc ms [.ref a0, .int w, .int a1, .int a2, .int a3, .int a4, .int a5] h (qDeed Q QX) qN := by
  refine g_enterH (lv := [(0, .ref a0), (1, .int w), (2, .int a1), (3, .int a2), (4, .int a3), (5, .int a4), (6, .int a5)]) G.2 (by decide +kernel) (Nat.le_of_ble_eq_true rfl) rfl (fun Γ X T E0 RM => ?_)
  refine g_iload_n X dL_deed_0 rfl ?_
  refine g_bipush (v := 30) X dL_deed_1 (by decide) ?_
  refine g_icmp_ge 22 X dL_deed_3 (by decide) (fun c3 => ?_) (fun c3 => ?_)
  · skip
    refine g_aload_n X dL_deed_22 rfl ?_
    refine g_iload_n X dL_deed_23 rfl ?_
    refine g_iload_n X dL_deed_24 rfl ?_
    refine g_iload_n X dL_deed_25 rfl ?_
    refine g_iload X dL_deed_26 rfl ?_
    refine g_callS X lm_L_146 hM rfl rfl (Nat.le_of_ble_eq_true rfl) (by rw [RM]; show d + 1 ≤ d + 1 ∧ 8 + (5 + 11) + 50 * d ≤ 50 * (d + 1); omega) (by rw [RM]; show 0 + mc ≤ mc ∧ 0 + ms ≤ ms; omega) dL_deed_28 (fun v h1 q => ?_) (fun E1 h1 q => ?_)
    · obtain ⟨x, rfl⟩ := hQ v h1 q
      refine GJ.seq (st' := [.int x]) rfl ?_
      refine g_ireturn X E0 rfl dL_deed_31 (by omega) (by omega) ?_
      exact Or.inl q
    · have hE := hX E1 h1 q
      simp only [eAll, List.mem_cons, List.not_mem_nil, or_false] at hE
      rcases hE with rfl | rfl | rfl | rfl | rfl
      · refine g_catch (name := eIDX) X T (hhD.take 0) (hhD.drop 1) (0, 31, 32, 150) rfl ?_ (by decide) (by decide) ld_150 lb_eIDX (fun q0 => ?_)
        · intro z hz
          simp only [hhD, List.take, List.mem_cons, List.not_mem_nil, or_false] at hz
        · refine g_astore (lv' := (7, .ref q0) :: [(0, .ref a0), (1, .int w), (2, .int a1), (3, .int a2), (4, .int a3), (5, .int a4), (6, .int a5)]) X dL_deed_32 (by decide) rfl ?_
          refine g_sipush (v := (-2001)) X dL_deed_34 (by decide) ?_
          refine g_ireturn X E0 rfl dL_deed_37 (by omega) (by omega) ?_
          exact Or.inr ⟨_, q, by decide⟩
      · refine g_catch (name := eILL) X T (hhD.take 1) (hhD.drop 2) (0, 31, 38, 152) rfl ?_ (by decide) (by decide) ld_152 lb_eILL (fun q0 => ?_)
        · intro z hz
          simp only [hhD, List.take, List.mem_cons, List.not_mem_nil, or_false] at hz
          rcases hz with rfl
          · exact ⟨by decide, eIDX, ld_150, by simp [gNcs]⟩
        · refine g_astore (lv' := (7, .ref q0) :: [(0, .ref a0), (1, .int w), (2, .int a1), (3, .int a2), (4, .int a3), (5, .int a4), (6, .int a5)]) X dL_deed_38 (by decide) rfl ?_
          refine g_sipush (v := (-2002)) X dL_deed_40 (by decide) ?_
          refine g_ireturn X E0 rfl dL_deed_43 (by omega) (by omega) ?_
          exact Or.inr ⟨_, q, by decide⟩
      · refine g_catch (name := eREF) X T (hhD.take 2) (hhD.drop 3) (0, 31, 44, 154) rfl ?_ (by decide) (by decide) ld_154 lb_eREF (fun q0 => ?_)
        · intro z hz
          simp only [hhD, List.take, List.mem_cons, List.not_mem_nil, or_false] at hz
          rcases hz with rfl | rfl
          · exact ⟨by decide, eIDX, ld_150, by simp [gNcs]⟩
          · exact ⟨by decide, eILL, ld_152, by simp [gNcs]⟩
        · refine g_astore (lv' := (7, .ref q0) :: [(0, .ref a0), (1, .int w), (2, .int a1), (3, .int a2), (4, .int a3), (5, .int a4), (6, .int a5)]) X dL_deed_44 (by decide) rfl ?_
          refine g_sipush (v := (-2004)) X dL_deed_46 (by decide) ?_
          refine g_ireturn X E0 rfl dL_deed_49 (by omega) (by omega) ?_
          exact Or.inr ⟨_, q, by decide⟩
      · refine g_catch (name := eNOS) X T (hhD.take 3) (hhD.drop 4) (0, 31, 50, 156) rfl ?_ (by decide) (by decide) ld_156 lb_eNOS (fun q0 => ?_)
        · intro z hz
          simp only [hhD, List.take, List.mem_cons, List.not_mem_nil, or_false] at hz
          rcases hz with rfl | rfl | rfl
          · exact ⟨by decide, eIDX, ld_150, by simp [gNcs]⟩
          · exact ⟨by decide, eILL, ld_152, by simp [gNcs]⟩
          · exact ⟨by decide, eREF, ld_154, by simp [gNcs]⟩
        · refine g_astore (lv' := (7, .ref q0) :: [(0, .ref a0), (1, .int w), (2, .int a1), (3, .int a2), (4, .int a3), (5, .int a4), (6, .int a5)]) X dL_deed_50 (by decide) rfl ?_
          refine g_sipush (v := (-2005)) X dL_deed_52 (by decide) ?_
          refine g_ireturn X E0 rfl dL_deed_55 (by omega) (by omega) ?_
          exact Or.inr ⟨_, q, by decide⟩
      · refine g_catch (name := eSTA) X T (hhD.take 4) (hhD.drop 5) (0, 31, 56, 158) rfl ?_ (by decide) (by decide) ld_158 lb_eSTA (fun q0 => ?_)
        · intro z hz
          simp only [hhD, List.take, List.mem_cons, List.not_mem_nil, or_false] at hz
          rcases hz with rfl | rfl | rfl | rfl
          · exact ⟨by decide, eIDX, ld_150, by simp [gNcs]⟩
          · exact ⟨by decide, eILL, ld_152, by simp [gNcs]⟩
          · exact ⟨by decide, eREF, ld_154, by simp [gNcs]⟩
          · exact ⟨by decide, eNOS, ld_156, by simp [gNcs]⟩
        · refine g_astore (lv' := (7, .ref q0) :: [(0, .ref a0), (1, .int w), (2, .int a1), (3, .int a2), (4, .int a3), (5, .int a4), (6, .int a5)]) X dL_deed_56 (by decide) rfl ?_
          refine g_sipush (v := (-2003)) X dL_deed_58 (by decide) ?_
          refine g_ireturn X E0 rfl dL_deed_61 (by omega) (by omega) ?_
          exact Or.inr ⟨_, q, by decide⟩
  · exact absurd c3 hw
def gLSH (own : String) (idx : Nat) (y : MethodName) (bytes : ByteArray) (n' : Nat) (ret' : Option FieldType) (hh : List (Nat × Nat × Nat × Nat)) (na : Nat) : Prop :=
  Cond.methodLink own idx y ∈ gT ∧ Cond.static y ∈ gT ∧ Cond.initialized y.cls ∈ gT ∧ Cond.codeWith y bytes n' ret' hh ∈ gT ∧ (y.cls ≠ "java/lang/invoke/MethodHandle" ∧ y.cls ≠ "java/lang/invoke/VarHandle" ∧ (parseMethodDescriptor y.desc).map (fun d => d.parameters.length) = some na)
theorem g_callSH {idx na n' d mc ms : Nat} {hh : List (Nat × Nat × Nat × Nat)} {y : MethodName} {bytes : ByteArray} {ret' : Option FieldType} {As rest : List Value} {Q : Option Value → gH → Prop} {QX : String → gH → Prop}
    (X : gOK Z Γ cc own nL ret) (L : gLSH own idx y bytes n' ret' hh na) (hM : gMetH Z y bytes n' ret' hh d mc ms As h Q QX) (hna : As.length = na) (hst : st = As.reverse ++ rest) (hcat : (rest.map fun v => v.category).sum ≤ 8)
    (hR : d + 1 ≤ Γ.2.2.1.frames ∧ 8 + (n' + 11) + 50 * d ≤ Γ.2.2.1.locals) (hf : k + mc ≤ Γ.2.2.1.cells ∧ n + ms ≤ Γ.2.2.1.slots) (dd : decode cc pc = .ok (.invokestatic idx, 3))
    (kk : ∀ (v : Option Value) (h' : gH), Q v h' → GJ Z Γ h' (k + mc) (n + ms) (pc + 3) lv (v.toList ++ rest)) (kx : ∀ (E : String) (h' : gH), QX E h' → GX Z Γ h' (k + mc) (n + ms) pc lv rest E) : GJ Z Γ h k n pc lv st := by
  subst hst
  obtain ⟨l1, l2, l3, l4, l5⟩ := L
  refine g_back (rest := rest) (As' := As.toArray) (fun H locs ls hw hS hl => ?_) kk kx
  have hG : GoodIn gT (va_wsS own idx y (gWSH y bytes n' ret' hh)) := by
    intro w hw
    unfold va_wsS at hw
    rcases List.mem_append.mp hw with hw | hw
    · simp only [List.mem_cons, List.not_mem_nil, or_false] at hw
      rcases hw with rfl | rfl | rfl
      · exact gWS_in l1
      · exact gWS_in l2
      · exact gWS_in l3
    · rcases List.mem_cons.mp hw with rfl | hw
      · exact gWS_in l4
      · exact gWS_in hw
  exact vx_runSX (n := na) ⟨X.exec, X.bytes, X.maxl, X.ow, X.wds⟩ hM (vx_cwSW na X.wds hG rfl rfl rfl l5 hR) ⟨gPc_blind, gPc_at X hw hS⟩ rfl hna (hl.1.trans X.nl) rfl (by rw [show JFrame.monitorRoom (F0 Γ.2.2.2.2.1 pc ls (As.reverse ++ rest)) = 0 from rfl]; omega) dd hf
set_option maxRecDepth 20000 in
theorem lh_L_160 : gLSH RL 160 yL_deed cL_deed 8 (some .int) hhD 7 := ⟨gT_at 114 (by decide +kernel) (by decide +kernel), gT_at 115 (by decide +kernel) (by decide +kernel), gT_at 18 (by decide +kernel) (by decide +kernel), gT_at 116 (by decide +kernel) (by decide +kernel), by decide +kernel, by decide +kernel, by decide +kernel⟩
set_option maxHeartbeats 4000000 in
set_option maxRecDepth 100000 in
theorem c_L_ask (G : gG Z) {a0 d mc ms : Nat} {w a1 a2 : Int32} {Q : Option Value → gH → Prop} (hQ : gNum Q) (hM : gMetH Z yL_deed cL_deed 8 (some .int) hhD d mc ms [.ref a0, .int w, .int a1, .int a2, .int 0, .int 0, .int 0] h Q qN) : gMet Z yL_ask cL_ask 4 (some .int) (d + 1) mc ms [.ref a0, .int w, .int a1, .int a2] h Q qN := by
  refine g_enter (lv := [(0, .ref a0), (1, .int w), (2, .int a1), (3, .int a2)]) G.2 (by decide +kernel) (Nat.le_of_ble_eq_true rfl) rfl (fun Γ X Nt E RM => ?_)
  refine g_aload_n X dL_ask_0 rfl ?_
  refine g_iload_n X dL_ask_1 rfl ?_
  refine g_iload_n X dL_ask_2 rfl ?_
  refine g_iload_n X dL_ask_3 rfl ?_
  refine g_iconst (v := 0) X dL_ask_4 (by decide) ?_
  refine g_iconst (v := 0) X dL_ask_5 (by decide) ?_
  refine g_iconst (v := 0) X dL_ask_6 (by decide) ?_
  refine g_callSH X lh_L_160 hM rfl rfl (Nat.le_of_ble_eq_true rfl) (by rw [RM]; show d + 1 ≤ d + 1 ∧ 8 + (8 + 11) + 50 * d ≤ 50 * (d + 1); omega) (by rw [RM]; show 0 + mc ≤ mc ∧ 0 + ms ≤ ms; omega) dL_ask_7 (fun v h1 q => ?_) (fun _ _ q => q.elim)
  obtain ⟨x, rfl⟩ := hQ v h1 q
  refine GJ.seq (st' := [.int x]) rfl ?_
  refine g_ireturn X E rfl dL_ask_10 (by omega) (by omega) ?_
  exact q
set_option maxHeartbeats 4000000 in
set_option maxRecDepth 100000 in
theorem c_L_block (G : gG Z) {a0 d mc ms : Nat} {a1 a2 a3 a4 a5 : Int32} {Q : Option Value → gH → Prop} (hQ : gNum Q) (hM : gMetH Z yL_deed cL_deed 8 (some .int) hhD d mc ms [.ref a0, .int 1, .int a1, .int a2, .int a3, .int a4, .int a5] h Q qN) : gMet Z yL_block cL_block 6 (some .int) (d + 1) mc ms [.ref a0, .int a1, .int a2, .int a3, .int a4, .int a5] h Q qN := by
  refine g_enter (lv := [(0, .ref a0), (1, .int a1), (2, .int a2), (3, .int a3), (4, .int a4), (5, .int a5)]) G.2 (by decide +kernel) (Nat.le_of_ble_eq_true rfl) rfl (fun Γ X Nt E RM => ?_)
  refine g_aload_n X dL_block_0 rfl ?_
  refine g_iconst (v := 1) X dL_block_1 (by decide) ?_
  refine g_iload_n X dL_block_2 rfl ?_
  refine g_iload_n X dL_block_3 rfl ?_
  refine g_iload_n X dL_block_4 rfl ?_
  refine g_iload X dL_block_5 rfl ?_
  refine g_iload X dL_block_7 rfl ?_
  refine g_callSH X lh_L_160 hM rfl rfl (Nat.le_of_ble_eq_true rfl) (by rw [RM]; show d + 1 ≤ d + 1 ∧ 8 + (8 + 11) + 50 * d ≤ 50 * (d + 1); omega) (by rw [RM]; show 0 + mc ≤ mc ∧ 0 + ms ≤ ms; omega) dL_block_9 (fun v h1 q => ?_) (fun _ _ q => q.elim)
  obtain ⟨x, rfl⟩ := hQ v h1 q
  refine GJ.seq (st' := [.int x]) rfl ?_
  refine g_ireturn X E rfl dL_block_12 (by omega) (by omega) ?_
  exact q
end GLAW3
