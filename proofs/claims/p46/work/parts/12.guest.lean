/-! guests: pure words and contracts -/
section GGUEST
variable {Z : gEnv} {Γ : gCtx} {cc : ByteArray} {own : String} {nL : Nat} {ret : Option FieldType} {h : gH} {k n pc : Nat} {lv lv' : List (Nat × Value)} {st st' : List Value} {ad : gAd} {P : gP}
theorem gp_getgl {g r q index : Nat} (X : gOK Z Γ cc own nL ret) (hR : gRep Z ad P h) (hl : gLive P 1 g 0) (hg : pGL P g = some (r, q)) (hlk : Cond.fieldLink own index RX1 (TX1 9).2.1 (TX1 9).2.2.1 ∈ gT) (d : decode cc pc = .ok (.getfield index, 3)) (kk : GJ Z Γ h k n (pc + 3) lv (.ref (ad 2 r q) :: st)) : GJ Z Γ h k n pc lv (.ref (ad 1 g 0) :: st) :=
  gp_get (j := 9) (v := .ref (ad 2 r q)) X hR hl cl_X1 hlk rfl (by decide) rfl (by show some (va_rf ((pGL P g).map _)) = _; rw [hg]; rfl) d kk
theorem Ln.uI {P : gP} {r q : Nat} {l : List Nat} {k r0 i0 s : Nat} {v : Int32} (h : Ln P r q l) (hk : ¬ (k = 2 ∧ s = 1)) : Ln (uI P k r0 i0 s v) r q l := ⟨by rw [pI_uI, if_neg (fun hh => hk ⟨hh.1.symm, hh.2.2.2.symm⟩)]; exact h.1, h.2.1, h.2.2.1, h.2.2.2⟩
theorem Tr.uI {P : gP} {r q : Nat} {l : List Nat} {k r0 i0 s : Nat} {v : Int32} (h : Tr P r q l) (hk : ¬ (k = 5 ∧ s = 2)) : Tr (uI P k r0 i0 s v) r q l := ⟨by rw [pI_uI, if_neg (fun hh => hk ⟨hh.1.symm, hh.2.2.2.symm⟩)]; exact h.1, h.2.1, h.2.2.1, h.2.2.2⟩
theorem Tr.at {P : gP} {r q : Nat} {l : List Nat} (h : Tr P r q l) {j : Nat} (hj : j < l.length) : pRD P r q j = some l[j] := by rw [h.2.1, List.getElem?_eq_getElem hj]
theorem Tr.mem {P : gP} {r q : Nat} {l : List Nat} (h : Tr P r q l) {j g : Nat} (hj : pRD P r q j = some g) : g < pnG P := h.2.2.2 g (List.mem_of_getElem? ((h.2.1 j).symm.trans hj))
theorem sTr_id {P : gP} {r i : Nat} {l : List Nat} (h : Tr P r i l) : sTr P r i l = P := by
  unfold sTr
  rw [uI_id h.1]
  exact sRD_id h.2.1
def fMin99 (x : Int32) : Int32 := if x < 99 then x else 99
def fMax0 (x : Int32) : Int32 := if 0 < x then x else 0
def fJoin (P : gP) (g r q : Nat) (l : List Nat) (p : Int32) : gP := uI (uI (uI (uGL (sLn P r q (l ++ [g])) g (some (r, q))) 1 g 0 10 p) 1 g 0 0 (pI P 1 g 0 0 - p)) 1 g 0 6 113
def fLeave (P : gP) (g r q : Nat) (l : List Nat) : gP := uI (uI (uGL (sLn P r q (l.erase g)) g none) 1 g 0 0 (pI P 1 g 0 0 + pI P 1 g 0 10)) 1 g 0 6 112
def fAboard (P : gP) (g : Nat) : gP := uI (uGL P g none) 1 g 0 6 116
def fMeal (P : gP) (g : Nat) : gP := uI (uI (uI P 1 g 0 0 (pI P 1 g 0 0 - 5)) 1 g 0 3 (fMax0 (pI P 1 g 0 3 - 5))) 1 g 0 4 (fMin99 (pI P 1 g 0 4 + 3))
def fFin (P : gP) (g : Nat) (f : Int32) : gP := uI (uI (uI (uI P 1 g 0 6 112) 1 g 0 4 (fMin99 (pI P 1 g 0 4 + f))) 1 g 0 3 (fMin99 (pI P 1 g 0 3 + 1))) 1 g 0 5 (pI P 1 g 0 5 + 1)
def fFinA (P : gP) (f : Int32) (l : List Nat) : gP := l.foldl (fun Q g => fFin Q g f) P
theorem fFinA_same (f : Int32) : ∀ (l : List Nat) (P : gP), (fFinA P f l).2 = P.2 ∧ ∀ k r i s, k ≠ 1 → pI (fFinA P f l) k r i s = pI P k r i s
  | [], P => ⟨rfl, fun _ _ _ _ _ => rfl⟩
  | g :: l, P => by
    have h1 := fFinA_same f l (fFin P g f)
    refine ⟨h1.1, fun k r i s hk => (h1.2 k r i s hk).trans ?_⟩
    simp [fFin, pI_uI, hk]
theorem gLive_fFinA {P : gP} {f : Int32} {l : List Nat} {k r i : Nat} : gLive (fFinA P f l) k r i = gLive P k r i := by
  have h := (fFinA_same f l P).1
  have e : fFinA P f l = ((fFinA P f l).1, P.2) := by rw [← h]
  rw [e]
  rfl
set_option maxHeartbeats 4000000 in
set_option maxRecDepth 100000 in
theorem c_X1_mayQueue {Z : gEnv} {ad : gAd} {P : gP} {h : gH} (G : gG Z) (hR : gRep Z ad P h) {g : Nat} (hl : gLive P 1 g 0) {r : Nat} (hr : gLive P 3 r 0) : gMet Z yX1_mayQueue cX1_mayQueue 2 ((Option.some FieldType.boolean)) 1 0 0 [.ref (ad 1 g 0), .ref (ad 3 r 0)] h (qI h (fun x => ¬ x = 0 → pI P 1 g 0 6 = 112 ∧ ¬ pI P 1 g 0 0 < pI P 3 r 0 2)) (qN) := by
  refine g_enter (lv := [(0, .ref (ad 1 g 0)), (1, .ref (ad 3 r 0))]) G.2 (by decide +kernel) (Nat.le_of_ble_eq_true rfl) rfl (fun Γ X Nt E RM => ?_)
  refine g_aload_n X dX1_mayQueue_0 rfl ?_
  refine gp_geti (j := 6) X hR hl cl_X1 lk_X1_9 rfl (by decide) rfl rfl dX1_mayQueue_1 (fun x1 e1 => ?_)
  refine g_bipush (v := 112) X dX1_mayQueue_4 (by decide) ?_
  refine g_icmp_ne 44 X dX1_mayQueue_6 (by decide) (fun c6 => ?_) (fun c6 => ?_)
  · skip
    refine g_iconst (v := 0) X dX1_mayQueue_44 (by decide) ?_
    refine g_ireturn X E (by decide) dX1_mayQueue_45 (by decide) (by decide) ?_
    refine ⟨_, rfl, ?_, rfl⟩
    intro hh
    exact absurd rfl hh
  · skip
    refine g_aload_n X dX1_mayQueue_9 rfl ?_
    refine gp_geti (j := 1) X hR hl cl_X1 lk_X1_22 rfl (by decide) rfl rfl dX1_mayQueue_10 (fun x10 e10 => ?_)
    refine g_aload_n X dX1_mayQueue_13 rfl ?_
    refine gp_geti (j := 0) X hR hr cl_X3 lk_X1_28 rfl (by decide) rfl rfl dX1_mayQueue_14 (fun x14 e14 => ?_)
    refine g_icmp_lt 44 X dX1_mayQueue_17 (by decide) (fun c17 => ?_) (fun c17 => ?_)
    · skip
      refine g_iconst (v := 0) X dX1_mayQueue_44 (by decide) ?_
      refine g_ireturn X E (by decide) dX1_mayQueue_45 (by decide) (by decide) ?_
      refine ⟨_, rfl, ?_, rfl⟩
      intro hh
      exact absurd rfl hh
    · skip
      refine g_aload_n X dX1_mayQueue_20 rfl ?_
      refine gp_geti (j := 0) X hR hl cl_X1 lk_X1_19 rfl (by decide) rfl rfl dX1_mayQueue_21 (fun x21 e21 => ?_)
      refine g_aload_n X dX1_mayQueue_24 rfl ?_
      refine gp_geti (j := 2) X hR hr cl_X3 lk_X1_31 rfl (by decide) rfl rfl dX1_mayQueue_25 (fun x25 e25 => ?_)
      refine g_icmp_lt 44 X dX1_mayQueue_28 (by decide) (fun c28 => ?_) (fun c28 => ?_)
      · skip
        refine g_iconst (v := 0) X dX1_mayQueue_44 (by decide) ?_
        refine g_ireturn X E (by decide) dX1_mayQueue_45 (by decide) (by decide) ?_
        refine ⟨_, rfl, ?_, rfl⟩
        intro hh
        exact absurd rfl hh
      · skip
        refine g_aload_n X dX1_mayQueue_31 rfl ?_
        refine gp_geti (j := 4) X hR hl cl_X1 lk_X1_34 rfl (by decide) rfl rfl dX1_mayQueue_32 (fun x32 e32 => ?_)
        refine g_bipush (v := 50) X dX1_mayQueue_35 (by decide) ?_
        refine g_icmp_ge 44 X dX1_mayQueue_37 (by decide) (fun c37 => ?_) (fun c37 => ?_)
        · skip
          refine g_iconst (v := 0) X dX1_mayQueue_44 (by decide) ?_
          refine g_ireturn X E (by decide) dX1_mayQueue_45 (by decide) (by decide) ?_
          refine ⟨_, rfl, ?_, rfl⟩
          intro hh
          exact absurd rfl hh
        · skip
          refine g_iconst (v := 1) X dX1_mayQueue_40 (by decide) ?_
          refine g_goto 45 X dX1_mayQueue_41 (by decide) ?_
          refine g_ireturn X E (by decide) dX1_mayQueue_45 (by decide) (by decide) ?_
          refine ⟨_, rfl, ?_, rfl⟩
          intro _
          rw [← e1, ← e21, ← e25]
          exact ⟨c6, c28⟩
set_option maxHeartbeats 4000000 in
set_option maxRecDepth 100000 in
theorem c_X1_canUseReturn {Z : gEnv} {ad : gAd} {P : gP} {h : gH} (G : gG Z) (hR : gRep Z ad P h) {g : Nat} (hl : gLive P 1 g 0) {x y : Int32} : gMet Z yX1_canUseReturn cX1_canUseReturn 3 ((Option.some FieldType.boolean)) 1 0 0 [.ref (ad 1 g 0), .int x, .int y] h (qI h (fun _ => True)) (qN) := by
  refine g_enter (lv := [(0, .ref (ad 1 g 0)), (1, .int x), (2, .int y)]) G.2 (by decide +kernel) (Nat.le_of_ble_eq_true rfl) rfl (fun Γ X Nt E RM => ?_)
  refine g_aload_n X dX1_canUseReturn_0 rfl ?_
  refine gp_geti (j := 7) X hR hl cl_X1 lk_X1_15 rfl (by decide) rfl rfl dX1_canUseReturn_1 (fun x1 e1 => ?_)
  refine g_iload_n X dX1_canUseReturn_4 rfl ?_
  refine g_icmp_ne 20 X dX1_canUseReturn_5 (by decide) (fun c5 => ?_) (fun c5 => ?_)
  · skip
    refine g_iconst (v := 0) X dX1_canUseReturn_20 (by decide) ?_
    refine g_ireturn X E (by decide) dX1_canUseReturn_21 (by decide) (by decide) ?_
    exact ⟨_, rfl, trivial, rfl⟩
  · skip
    refine g_aload_n X dX1_canUseReturn_8 rfl ?_
    refine gp_geti (j := 8) X hR hl cl_X1 lk_X1_37 rfl (by decide) rfl rfl dX1_canUseReturn_9 (fun x9 e9 => ?_)
    refine g_iload_n X dX1_canUseReturn_12 rfl ?_
    refine g_icmp_gt 20 X dX1_canUseReturn_13 (by decide) (fun c13 => ?_) (fun c13 => ?_)
    · skip
      refine g_iconst (v := 0) X dX1_canUseReturn_20 (by decide) ?_
      refine g_ireturn X E (by decide) dX1_canUseReturn_21 (by decide) (by decide) ?_
      exact ⟨_, rfl, trivial, rfl⟩
    · skip
      refine g_iconst (v := 1) X dX1_canUseReturn_16 (by decide) ?_
      refine g_goto 21 X dX1_canUseReturn_17 (by decide) ?_
      refine g_ireturn X E (by decide) dX1_canUseReturn_21 (by decide) (by decide) ?_
      exact ⟨_, rfl, trivial, rfl⟩
set_option maxHeartbeats 4000000 in
set_option maxRecDepth 100000 in
theorem c_X1_joinLine {Z : gEnv} {ad : gAd} {P : gP} {h : gH} (G : gG Z) (hR : gRep Z ad P h) {g : Nat} (hl : gLive P 1 g 0) {r q : Nat} (hq : gLive P 2 r q) {l : List Nat} (hL : Ln P r q l) (hn : l.length < 60) {p : Int32} : gMet Z yX1_joinLine cX1_joinLine 3 ((Option.none : Option FieldType)) 2 0 0 [.ref (ad 1 g 0), .ref (ad 2 r q), .int p] h (qM (fun h2 => ∃ P2, gRep Z ad P2 h2 ∧ P2 = fJoin P g r q l p)) (qN) := by
  refine g_enter (lv := [(0, .ref (ad 1 g 0)), (1, .ref (ad 2 r q)), (2, .int p)]) G.2 (by decide +kernel) (Nat.le_of_ble_eq_true rfl) rfl (fun Γ X Nt E RM => ?_)
  refine g_aload_n X dX1_joinLine_0 rfl ?_
  refine g_aload_n X dX1_joinLine_1 rfl ?_
  refine gp_V X RM lm_X1_40 (c_X2_append G hR hq hL hn hl) cl_X2 hR hq rfl rfl rfl (Nat.le_of_ble_eq_true rfl) (by decide) (by decide) dX1_joinLine_2 (fun v h1 q => ?_) (fun _ _ q => q.elim)
  obtain ⟨rfl, _, hR, rfl⟩ := q
  refine GJ.seq (st' := []) rfl ?_
  refine g_aload_n X dX1_joinLine_5 rfl ?_
  refine g_aload_n X dX1_joinLine_6 rfl ?_
  refine gp_putgl (v := (some (r, q))) X hR hl rfl lk_X1_46 dX1_joinLine_7 (fun h hR => ?_)
  refine g_aload_n X dX1_joinLine_10 rfl ?_
  refine g_iload_n X dX1_joinLine_11 rfl ?_
  refine gp_puti (j := 10) X hR hl cl_X1 lk_X1_50 rfl (by decide) rfl (by decide) rfl rfl rfl dX1_joinLine_12 (fun h hR => ?_)
  refine g_aload_n X dX1_joinLine_15 rfl ?_
  refine g_dup X dX1_joinLine_16 rfl ?_
  refine gp_geti (j := 0) X hR hl cl_X1 lk_X1_19 rfl (by decide) rfl rfl dX1_joinLine_17 (fun x17 e17 => ?_)
  refine g_iload_n X dX1_joinLine_20 rfl ?_
  refine g_isub X dX1_joinLine_21 (fun x21 e21 => ?_)
  refine gp_puti (j := 0) X hR hl cl_X1 lk_X1_19 rfl (by decide) rfl (by decide) rfl rfl rfl dX1_joinLine_22 (fun h hR => ?_)
  refine g_aload_n X dX1_joinLine_25 rfl ?_
  refine g_bipush (v := 113) X dX1_joinLine_26 (by decide) ?_
  refine gp_puti (j := 6) X hR hl cl_X1 lk_X1_9 rfl (by decide) rfl (by decide) rfl (by decide) (by decide) dX1_joinLine_28 (fun h hR => ?_)
  refine g_return X E dX1_joinLine_31 (by decide) (by decide) ?_
  refine ⟨rfl, _, hR, ?_⟩
  subst_vars
  simp [fJoin, pI_uI, pI_uGL, pI_sLn]
set_option maxHeartbeats 4000000 in
set_option maxRecDepth 100000 in
theorem c_X1_leaveLine {Z : gEnv} {ad : gAd} {P : gP} {h : gH} (G : gG Z) (hR : gRep Z ad P h) {g : Nat} (hl : gLive P 1 g 0) {r q : Nat} (hq : gLive P 2 r q) {l : List Nat} (hL : Ln P r q l) (hg : pGL P g = some (r, q)) : gMet Z yX1_leaveLine cX1_leaveLine 1 ((Option.some FieldType.int)) 3 0 0 [.ref (ad 1 g 0)] h (qIM (fun x h2 => ∃ P2, gRep Z ad P2 h2 ∧ x = pI P 1 g 0 10 ∧ P2 = fLeave P g r q l)) (qN) := by
  refine g_enter (lv := [(0, .ref (ad 1 g 0))]) G.2 (by decide +kernel) (Nat.le_of_ble_eq_true rfl) rfl (fun Γ X Nt E RM => ?_)
  refine g_aload_n X dX1_leaveLine_0 rfl ?_
  refine gp_getgl (r := r) (q := q) X hR hl hg lk_X1_46 dX1_leaveLine_1 ?_
  refine g_ifnull X dX1_leaveLine_4 ?_
  refine g_aload_n X dX1_leaveLine_7 rfl ?_
  refine gp_getgl (r := r) (q := q) X hR hl hg lk_X1_46 dX1_leaveLine_8 ?_
  refine g_aload_n X dX1_leaveLine_11 rfl ?_
  refine gp_V X RM lm_X1_53 (c_X2_takeOut G hR hq hL hl) cl_X2 hR hq rfl rfl rfl (Nat.le_of_ble_eq_true rfl) (by decide) (by decide) dX1_leaveLine_12 (fun v h1 q => ?_) (fun _ _ q => q.elim)
  obtain ⟨rfl, _, hR, rfl⟩ := q
  refine GJ.seq (st' := []) rfl ?_
  refine g_aload_n X dX1_leaveLine_15 rfl ?_
  refine g_null X dX1_leaveLine_16 ?_
  refine gp_putgl (v := none) X hR hl rfl lk_X1_46 dX1_leaveLine_17 (fun h hR => ?_)
  refine g_aload_n X dX1_leaveLine_20 rfl ?_
  refine g_dup X dX1_leaveLine_21 rfl ?_
  refine gp_geti (j := 0) X hR hl cl_X1 lk_X1_19 rfl (by decide) rfl rfl dX1_leaveLine_22 (fun x22 e22 => ?_)
  refine g_aload_n X dX1_leaveLine_25 rfl ?_
  refine gp_geti (j := 10) X hR hl cl_X1 lk_X1_50 rfl (by decide) rfl rfl dX1_leaveLine_26 (fun x26 e26 => ?_)
  refine g_iadd X dX1_leaveLine_29 (fun x29 e29 => ?_)
  refine gp_puti (j := 0) X hR hl cl_X1 lk_X1_19 rfl (by decide) rfl (by decide) rfl rfl rfl dX1_leaveLine_30 (fun h hR => ?_)
  refine g_aload_n X dX1_leaveLine_33 rfl ?_
  refine g_bipush (v := 112) X dX1_leaveLine_34 (by decide) ?_
  refine gp_puti (j := 6) X hR hl cl_X1 lk_X1_9 rfl (by decide) rfl (by decide) rfl (by decide) (by decide) dX1_leaveLine_36 (fun h hR => ?_)
  refine g_aload_n X dX1_leaveLine_39 rfl ?_
  refine gp_geti (j := 10) X hR hl cl_X1 lk_X1_50 rfl (by decide) rfl rfl dX1_leaveLine_40 (fun x40 e40 => ?_)
  refine g_ireturn X E rfl dX1_leaveLine_43 (by decide) (by decide) ?_
  refine ⟨_, rfl, _, hR, ?_, ?_⟩
  · subst_vars; simp [pI_uI, pI_uGL, pI_sLn]
  · subst_vars; simp [fLeave, pI_uI, pI_uGL, pI_sLn]
set_option maxHeartbeats 4000000 in
set_option maxRecDepth 100000 in
theorem c_X1_goAboard {Z : gEnv} {ad : gAd} {P : gP} {h : gH} (G : gG Z) (hR : gRep Z ad P h) {g : Nat} (hl : gLive P 1 g 0) : gMet Z yX1_goAboard cX1_goAboard 1 ((Option.none : Option FieldType)) 1 0 0 [.ref (ad 1 g 0)] h (qM (fun h2 => ∃ P2, gRep Z ad P2 h2 ∧ P2 = fAboard P g)) (qN) := by
  refine g_enter (lv := [(0, .ref (ad 1 g 0))]) G.2 (by decide +kernel) (Nat.le_of_ble_eq_true rfl) rfl (fun Γ X Nt E RM => ?_)
  refine g_aload_n X dX1_goAboard_0 rfl ?_
  refine g_null X dX1_goAboard_1 ?_
  refine gp_putgl (v := none) X hR hl rfl lk_X1_46 dX1_goAboard_2 (fun h hR => ?_)
  refine g_aload_n X dX1_goAboard_5 rfl ?_
  refine g_bipush (v := 116) X dX1_goAboard_6 (by decide) ?_
  refine gp_puti (j := 6) X hR hl cl_X1 lk_X1_9 rfl (by decide) rfl (by decide) rfl (by decide) (by decide) dX1_goAboard_8 (fun h hR => ?_)
  refine g_return X E dX1_goAboard_11 (by decide) (by decide) ?_
  exact ⟨rfl, _, hR, rfl⟩
set_option maxHeartbeats 4000000 in
set_option maxRecDepth 100000 in
theorem c_X1_haveMeal {Z : gEnv} {ad : gAd} {P : gP} {h : gH} (G : gG Z) (hR : gRep Z ad P h) {g : Nat} (hl : gLive P 1 g 0) : gMet Z yX1_haveMeal cX1_haveMeal 1 ((Option.none : Option FieldType)) 2 0 0 [.ref (ad 1 g 0)] h (qM (fun h2 => ∃ P2, gRep Z ad P2 h2 ∧ P2 = fMeal P g)) (qN) := by
  refine g_enter (lv := [(0, .ref (ad 1 g 0))]) G.2 (by decide +kernel) (Nat.le_of_ble_eq_true rfl) rfl (fun Γ X Nt E RM => ?_)
  refine g_aload_n X dX1_haveMeal_0 rfl ?_
  refine g_dup X dX1_haveMeal_1 rfl ?_
  refine gp_geti (j := 0) X hR hl cl_X1 lk_X1_19 rfl (by decide) rfl rfl dX1_haveMeal_2 (fun x2 e2 => ?_)
  refine g_iconst (v := 5) X dX1_haveMeal_5 (by decide) ?_
  refine g_isub X dX1_haveMeal_6 (fun x6 e6 => ?_)
  refine gp_puti (j := 0) X hR hl cl_X1 lk_X1_19 rfl (by decide) rfl (by decide) rfl rfl rfl dX1_haveMeal_7 (fun h hR => ?_)
  refine g_aload_n X dX1_haveMeal_10 rfl ?_
  refine g_iconst (v := 0) X dX1_haveMeal_11 (by decide) ?_
  refine g_aload_n X dX1_haveMeal_12 rfl ?_
  refine gp_geti (j := 3) X hR hl cl_X1 lk_X1_56 rfl (by decide) rfl rfl dX1_haveMeal_13 (fun x13 e13 => ?_)
  refine g_iconst (v := 5) X dX1_haveMeal_16 (by decide) ?_
  refine g_isub X dX1_haveMeal_17 (fun x17 e17 => ?_)
  refine gp_max X RM lm_X1_59 ⟨Nat.le_of_ble_eq_true rfl, Nat.le_of_ble_eq_true rfl⟩ ⟨Nat.le_of_ble_eq_true rfl, Nat.le_of_ble_eq_true rfl⟩ dX1_haveMeal_18 (fun x18 e18 => ?_)
  refine gp_puti (j := 3) X hR hl cl_X1 lk_X1_56 rfl (by decide) rfl (by decide) rfl rfl rfl dX1_haveMeal_21 (fun h hR => ?_)
  refine g_aload_n X dX1_haveMeal_24 rfl ?_
  refine g_bipush (v := 99) X dX1_haveMeal_25 (by decide) ?_
  refine g_aload_n X dX1_haveMeal_27 rfl ?_
  refine gp_geti (j := 4) X hR hl cl_X1 lk_X1_34 rfl (by decide) rfl rfl dX1_haveMeal_28 (fun x28 e28 => ?_)
  refine g_iconst (v := 3) X dX1_haveMeal_31 (by decide) ?_
  refine g_iadd X dX1_haveMeal_32 (fun x32 e32 => ?_)
  refine gp_min X RM lm_X1_65 ⟨Nat.le_of_ble_eq_true rfl, Nat.le_of_ble_eq_true rfl⟩ ⟨Nat.le_of_ble_eq_true rfl, Nat.le_of_ble_eq_true rfl⟩ dX1_haveMeal_33 (fun x33 e33 => ?_)
  refine gp_puti (j := 4) X hR hl cl_X1 lk_X1_34 rfl (by decide) rfl (by decide) rfl rfl rfl dX1_haveMeal_36 (fun h hR => ?_)
  refine g_return X E dX1_haveMeal_39 (by decide) (by decide) ?_
  refine ⟨rfl, _, hR, ?_⟩
  subst_vars
  simp [fMeal, fMax0, fMin99, pI_uI]
set_option maxHeartbeats 4000000 in
set_option maxRecDepth 100000 in
theorem c_X1_finishRide {Z : gEnv} {ad : gAd} {P : gP} {h : gH} (G : gG Z) (hR : gRep Z ad P h) {g : Nat} (hl : gLive P 1 g 0) {f : Int32} : gMet Z yX1_finishRide cX1_finishRide 2 ((Option.none : Option FieldType)) 2 0 0 [.ref (ad 1 g 0), .int f] h (qM (fun h2 => ∃ P2, gRep Z ad P2 h2 ∧ P2 = fFin P g f)) (qN) := by
  refine g_enter (lv := [(0, .ref (ad 1 g 0)), (1, .int f)]) G.2 (by decide +kernel) (Nat.le_of_ble_eq_true rfl) rfl (fun Γ X Nt E RM => ?_)
  refine g_aload_n X dX1_finishRide_0 rfl ?_
  refine g_bipush (v := 112) X dX1_finishRide_1 (by decide) ?_
  refine gp_puti (j := 6) X hR hl cl_X1 lk_X1_9 rfl (by decide) rfl (by decide) rfl (by decide) (by decide) dX1_finishRide_3 (fun h hR => ?_)
  refine g_aload_n X dX1_finishRide_6 rfl ?_
  refine g_bipush (v := 99) X dX1_finishRide_7 (by decide) ?_
  refine g_aload_n X dX1_finishRide_9 rfl ?_
  refine gp_geti (j := 4) X hR hl cl_X1 lk_X1_34 rfl (by decide) rfl rfl dX1_finishRide_10 (fun x10 e10 => ?_)
  refine g_iload_n X dX1_finishRide_13 rfl ?_
  refine g_iadd X dX1_finishRide_14 (fun x14 e14 => ?_)
  refine gp_min X RM lm_X1_65 ⟨Nat.le_of_ble_eq_true rfl, Nat.le_of_ble_eq_true rfl⟩ ⟨Nat.le_of_ble_eq_true rfl, Nat.le_of_ble_eq_true rfl⟩ dX1_finishRide_15 (fun x15 e15 => ?_)
  refine gp_puti (j := 4) X hR hl cl_X1 lk_X1_34 rfl (by decide) rfl (by decide) rfl rfl rfl dX1_finishRide_18 (fun h hR => ?_)
  refine g_aload_n X dX1_finishRide_21 rfl ?_
  refine g_bipush (v := 99) X dX1_finishRide_22 (by decide) ?_
  refine g_aload_n X dX1_finishRide_24 rfl ?_
  refine gp_geti (j := 3) X hR hl cl_X1 lk_X1_56 rfl (by decide) rfl rfl dX1_finishRide_25 (fun x25 e25 => ?_)
  refine g_iconst (v := 1) X dX1_finishRide_28 (by decide) ?_
  refine g_iadd X dX1_finishRide_29 (fun x29 e29 => ?_)
  refine gp_min X RM lm_X1_65 ⟨Nat.le_of_ble_eq_true rfl, Nat.le_of_ble_eq_true rfl⟩ ⟨Nat.le_of_ble_eq_true rfl, Nat.le_of_ble_eq_true rfl⟩ dX1_finishRide_30 (fun x30 e30 => ?_)
  refine gp_puti (j := 3) X hR hl cl_X1 lk_X1_56 rfl (by decide) rfl (by decide) rfl rfl rfl dX1_finishRide_33 (fun h hR => ?_)
  refine g_aload_n X dX1_finishRide_36 rfl ?_
  refine g_dup X dX1_finishRide_37 rfl ?_
  refine gp_geti (j := 5) X hR hl cl_X1 lk_X1_68 rfl (by decide) rfl rfl dX1_finishRide_38 (fun x38 e38 => ?_)
  refine g_iconst (v := 1) X dX1_finishRide_41 (by decide) ?_
  refine g_iadd X dX1_finishRide_42 (fun x42 e42 => ?_)
  refine gp_puti (j := 5) X hR hl cl_X1 lk_X1_68 rfl (by decide) rfl (by decide) rfl rfl rfl dX1_finishRide_43 (fun h hR => ?_)
  refine g_return X E dX1_finishRide_46 (by decide) (by decide) ?_
  refine ⟨rfl, _, hR, ?_⟩
  subst_vars
  simp [fFin, fMin99, pI_uI]
end GGUEST
