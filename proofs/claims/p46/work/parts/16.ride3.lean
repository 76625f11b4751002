/-! rides: moving, boarding (by any property that the steps keep), soundness -/
section GRIDE3
/-- what moving asks of a state -/
def mtPre (P : gP) (r N : Nat) : Prop := gLive P 3 r 0 ∧ pnB P r = N ∧ N ≤ 12 ∧ gChrs P r ∧ ∀ i, i < pnT P r → (∃ b, b < pnB P r ∧ pI P 5 r i 3 = nI b) ∧ ∃ l, Tr P r i l
/-- what boarding asks of a state -/
def bdPre (P : gP) (r i NG : Nat) : Prop := gLive P 3 r 0 ∧ gLive P 5 r i ∧ pnG P = NG ∧ (∃ s, s ≤ 8 ∧ pI P 5 r i 0 = nI s) ∧ (∃ t, Tr P r i t) ∧ ∀ q, q < 3 → ∃ l, Ln P r q l
def bdStep (J : gP → Prop) (r i : Nat) : Prop := ∀ (P : gP) (q : Nat) (l t : List Nat) (g idx : Nat), J P → q < 3 → Ln P r q l → l[idx]? = some g → Tr P r i t → t.length < 8 → J (fSeat (sLn P r q (l.eraseIdx idx)) r i t g)
theorem Tr.sLn {P : gP} {r i r2 q : Nat} {t l : List Nat} (h : Tr P r i t) : Tr (sLn P r2 q l) r i t := ⟨by rw [pI_sLn, if_neg (by simp)]; exact h.1, h.2.1, h.2.2.1, h.2.2.2⟩
theorem g_m1 (x : Int32) : x + Int32.ofInt (-1) = x - 1 := by rw [Int32.sub_eq_add_neg]; rfl
theorem fs_pos {s : Nat} {t : Nat} (hs : s ≤ 8) (ht : t ≤ 8) (h : 0 < nI s - nI t) : t < 8 := by
  rcases Nat.lt_or_ge t 8 with q | q
  · exact q
  · have ht8 : t = 8 := by omega
    subst ht8
    exfalso
    revert h
    rcases (show s = 0 ∨ s = 1 ∨ s = 2 ∨ s = 3 ∨ s = 4 ∨ s = 5 ∨ s = 6 ∨ s = 7 ∨ s = 8 by omega) with e | e | e | e | e | e | e | e | e <;> subst e <;> decide
set_option maxHeartbeats 4000000 in
set_option maxRecDepth 100000 in
theorem c_X3_moveTrains {Z : gEnv} {ad : gAd} {P : gP} {h : gH} (G : gG Z) (hR : gRep Z ad P h) {r N : Nat} {w : Int32} (J : gP → Prop) (hJ : ∀ P, J P → mtPre P r N) (hmv : ∀ P P2 i b l, J P → i < pnT P r → pI P 5 r i 3 = nI b → b < pnB P r → pI P 5 r i 5 = 109 → Tr P r i l → mvRel P P2 r i b l → J P2) (hgo : ∀ P i b, J P → i < pnT P r → pI P 5 r i 3 = nI b → b < pnB P r → pI P 5 r i 5 = 115 → fKS P r i b w = 46 → J (fGo P r i (fPath P r (pnB P r) b 0))) (hj : J P) : gMet Z yX3_moveTrains cX3_moveTrains 4 ((Option.none : Option FieldType)) 6 0 0 [.ref (ad 3 r 0), .int w] h (qM (fun h2 => ∃ P2, gRep Z ad P2 h2 ∧ J P2)) (qN) := by
  refine g_enter (lv := [(0, .ref (ad 3 r 0)), (1, .int w)]) G.2 (by decide +kernel) (Nat.le_of_ble_eq_true rfl) rfl (fun Γ X Nt E RM => ?_)
  have hl : gLive P 3 r 0 := (hJ P hj).1
  have hN12 : N ≤ 12 := (hJ P hj).2.2.1
  have L : ∀ (m : Nat) (x2 : Int32) (P1 : gP) (h : gH) (hR : gRep Z ad P1 h) (hj : J P1) (hm : m ≤ N) (h2 : x2 = nI m - 1), GJ Z Γ h 0 0 10 [(2, .int x2), (1, .int w), (0, .ref (ad 3 r 0))] [] := by
    intro m
    induction m with
    | zero =>
      intro x2 P1 h hR hj hm h2
      have hpre := hJ P1 hj
      have hl : gLive P1 3 r 0 := hpre.1
      have hB : pnB P1 r ≤ 12 := by rw [hpre.2.1]; exact hpre.2.2.1
      have hC : gChrs P1 r := hpre.2.2.2.1
      refine g_iload_n X dX3_moveTrains_10 rfl ?_
      refine g_if_lt 91 X dX3_moveTrains_11 (by decide) (fun c11 => ?_) (fun c11 => ?_)
      · skip
        refine g_return X E dX3_moveTrains_91 (by decide) (by decide) ?_
        exact ⟨rfl, _, hR, hj⟩
      · skip
        exact absurd (by rw [h2]; decide) c11
    | succ m ih =>
      intro x2 P1 h hR hj hm h2
      have hpre := hJ P1 hj
      have hl : gLive P1 3 r 0 := hpre.1
      have hB : pnB P1 r ≤ 12 := by rw [hpre.2.1]; exact hpre.2.2.1
      have hC : gChrs P1 r := hpre.2.2.2.1
      have hx2 : x2 = nI m := by rw [h2]; exact nI_pred m
      refine g_iload_n X dX3_moveTrains_10 rfl ?_
      refine g_if_lt 91 X dX3_moveTrains_11 (by decide) (fun c11 => ?_) (fun c11 => ?_)
      · skip
        exact absurd c11 (by rw [hx2]; exact nI_pos (by omega))
      · skip
        refine g_aload_n X dX3_moveTrains_14 rfl ?_
        refine g_iload_n X dX3_moveTrains_15 rfl ?_
        refine gp_V X RM lm_X3_59 (c_X3_trainIn G hR hl) cl_X3 hR hl rfl rfl rfl (Nat.le_of_ble_eq_true rfl) (by decide) (by decide) dX3_moveTrains_16 (fun v hz q => ?_) (fun _ _ q => q.elim)
        obtain ⟨w16, rfl, e16, rfl⟩ := q
        rcases hf16 : fIn P1 r x2 4 0 with _ | i16
        · skip
          rw [hf16] at e16
          subst e16
          refine GJ.seq (st' := [.null]) rfl ?_
          refine g_astore_nN (lv' := [(3, .null), (2, .int x2), (1, .int w), (0, .ref (ad 3 r 0))]) X dX3_moveTrains_19 (by decide) rfl ?_
          refine g_aload_nN X dX3_moveTrains_20 rfl ?_
          refine g_ifnullN 45 X dX3_moveTrains_21 (by decide) ?_
          refine g_aload_nN X dX3_moveTrains_45 rfl ?_
          refine g_ifnullN 85 X dX3_moveTrains_46 (by decide) ?_
          refine gp_iinc 1 X dX3_moveTrains_85 rfl (by decide) (fun x85 e85 => ?_)
          refine GJ.leq (lv' := [(2, .int x85), (3, .null), (1, .int w), (0, .ref (ad 3 r 0))]) rfl ?_
          refine g_goto 10 X dX3_moveTrains_88 (by decide) ?_
          refine GJ.pick [0, 2, 3] rfl ?_
          exact ih x85 P1 _ hR hj (by omega) (by rw [e85, hx2]; exact g_m1 _)
        · skip
          rw [hf16] at e16
          subst e16
          have hl16 : gLive P1 5 r i16 := ⟨(hl).1, (fIn_some hf16).1⟩
          refine GJ.seq (st' := [.ref (ad 5 r i16)]) rfl ?_
          refine g_astore_n (lv' := [(3, .ref (ad 5 r i16)), (2, .int x2), (1, .int w), (0, .ref (ad 3 r 0))]) X dX3_moveTrains_19 (by decide) rfl ?_
          refine g_aload_n X dX3_moveTrains_20 rfl ?_
          refine g_ifnull X dX3_moveTrains_21 ?_
          obtain ⟨⟨b16, hb16, hbe⟩, t16, ht16⟩ := hpre.2.2.2.2 i16 (fIn_some hf16).1
          have hbm : b16 = m := (nI_eq (by omega) (by omega)).mp (hbe.symm.trans ((fIn_some hf16).2.1.trans hx2))
          subst hbm
          refine g_aload_n X dX3_moveTrains_24 rfl ?_
          refine gp_geti (j := 5) X hR hl16 cl_X5 lk_X3_63 rfl (by decide) rfl rfl dX3_moveTrains_25 (fun x25 e25 => ?_)
          refine g_bipush (v := 109) X dX3_moveTrains_28 (by decide) ?_
          refine g_icmp_ne 45 X dX3_moveTrains_30 (by decide) (fun c30 => ?_) (fun c30 => ?_)
          · skip
            refine g_aload_n X dX3_moveTrains_45 rfl ?_
            refine g_ifnull X dX3_moveTrains_46 ?_
            refine g_iload_n X dX3_moveTrains_49 rfl ?_
            refine g_if_eq 85 X dX3_moveTrains_50 (by decide) (fun c50 => ?_) (fun c50 => ?_)
            · skip
              refine gp_iinc 1 X dX3_moveTrains_85 rfl (by decide) (fun x85 e85 => ?_)
              refine GJ.leq (lv' := [(2, .int x85), (3, .ref (ad 5 r i16)), (1, .int w), (0, .ref (ad 3 r 0))]) rfl ?_
              refine g_goto 10 X dX3_moveTrains_88 (by decide) ?_
              refine GJ.pick [0, 2, 3] rfl ?_
              exact ih x85 P1 _ hR hj (by omega) (by rw [e85, hx2]; exact g_m1 _)
            · skip
              refine g_aload_n X dX3_moveTrains_53 rfl ?_
              refine gp_geti (j := 5) X hR hl16 cl_X5 lk_X3_63 rfl (by decide) rfl rfl dX3_moveTrains_54 (fun x54 e54 => ?_)
              refine g_bipush (v := 115) X dX3_moveTrains_57 (by decide) ?_
              refine g_icmp_ne 85 X dX3_moveTrains_59 (by decide) (fun c59 => ?_) (fun c59 => ?_)
              · skip
                refine gp_iinc 1 X dX3_moveTrains_85 rfl (by decide) (fun x85 e85 => ?_)
                refine GJ.leq (lv' := [(2, .int x85), (3, .ref (ad 5 r i16)), (1, .int w), (0, .ref (ad 3 r 0))]) rfl ?_
                refine g_goto 10 X dX3_moveTrains_88 (by decide) ?_
                refine GJ.pick [0, 2, 3] rfl ?_
                exact ih x85 P1 _ hR hj (by omega) (by rw [e85, hx2]; exact g_m1 _)
              · skip
                refine g_aload_n X dX3_moveTrains_62 rfl ?_
                refine g_aload_n X dX3_moveTrains_63 rfl ?_
                refine g_iload_n X dX3_moveTrains_64 rfl ?_
                refine gp_V X RM lm_X3_117 (c_X3_whatKeepsInStop G hR hl hB hC (fIn_some hf16).1 hbe hb16) cl_X3 hR hl rfl rfl rfl (Nat.le_of_ble_eq_true rfl) (by decide) (by decide) dX3_moveTrains_65 (fun v hz q => ?_) (fun _ _ q => q.elim)
                obtain ⟨x65, rfl, e65, rfl⟩ := q
                refine GJ.seq (st' := [.int x65]) rfl ?_
                refine g_bipush (v := 46) X dX3_moveTrains_68 (by decide) ?_
                refine g_icmp_ne 85 X dX3_moveTrains_70 (by decide) (fun c70 => ?_) (fun c70 => ?_)
                · skip
                  refine gp_iinc 1 X dX3_moveTrains_85 rfl (by decide) (fun x85 e85 => ?_)
                  refine GJ.leq (lv' := [(2, .int x85), (3, .ref (ad 5 r i16)), (1, .int w), (0, .ref (ad 3 r 0))]) rfl ?_
                  refine g_goto 10 X dX3_moveTrains_88 (by decide) ?_
                  refine GJ.pick [0, 2, 3] rfl ?_
                  exact ih x85 P1 _ hR hj (by omega) (by rw [e85, hx2]; exact g_m1 _)
                · skip
                  refine g_aload_n X dX3_moveTrains_73 rfl ?_
                  refine g_aload_n X dX3_moveTrains_74 rfl ?_
                  refine gp_get (j := 3) (v := .ref (ad 4 r 0)) X hR hl cl_X3 lk_X3_12 rfl (by decide) rfl rfl dX3_moveTrains_75 ?_
                  refine g_iload_n X dX3_moveTrains_78 rfl ?_
                  refine gp_V X RM lm_X3_129 (c_X4_pathBehind G hR hl hB hx2 hb16) cl_X4 hR hl rfl rfl rfl (Nat.le_of_ble_eq_true rfl) (by decide) (by decide) dX3_moveTrains_79 (fun v hz q => ?_) (fun _ _ q => q.elim)
                  obtain ⟨x79, rfl, e79, rfl⟩ := q
                  refine GJ.seq (st' := [.int x79, .ref (ad 5 r i16)]) rfl ?_
                  refine gp_V X RM lm_X3_135 (c_X5_leaveStop G hR hl16) cl_X5 hR hl16 rfl rfl rfl (Nat.le_of_ble_eq_true rfl) (by decide) (by decide) dX3_moveTrains_82 (fun v hz q => ?_) (fun _ _ q => q.elim)
                  obtain ⟨rfl, P82, hR, e82⟩ := q
                  refine GJ.seq (st' := []) rfl ?_
                  refine gp_iinc 1 X dX3_moveTrains_85 rfl (by decide) (fun x85 e85 => ?_)
                  refine GJ.leq (lv' := [(2, .int x85), (3, .ref (ad 5 r i16)), (1, .int w), (0, .ref (ad 3 r 0))]) rfl ?_
                  refine g_goto 10 X dX3_moveTrains_88 (by decide) ?_
                  refine GJ.pick [0, 2, 3] rfl ?_
                  exact ih x85 P82 _ hR (by rw [e82, e79]; exact hgo P1 i16 _ hj (fIn_some hf16).1 hbe hb16 (by rw [← e54]; exact c59) (by rw [← e65]; exact c70)) (by omega) (by rw [e85, hx2]; exact g_m1 _)
          · skip
            refine g_aload_n X dX3_moveTrains_33 rfl ?_
            refine g_aload_n X dX3_moveTrains_34 rfl ?_
            refine gp_get (j := 3) (v := .ref (ad 4 r 0)) X hR hl cl_X3 lk_X3_12 rfl (by decide) rfl rfl dX3_moveTrains_35 ?_
            refine g_iload_n X dX3_moveTrains_38 rfl ?_
            refine gp_V X RM lm_X3_142 (c_X5_moveOn G hR hl16 ht16 hB hbe hb16) cl_X5 hR hl16 rfl rfl rfl (Nat.le_of_ble_eq_true rfl) (by decide) (by decide) dX3_moveTrains_39 (fun v hz q => ?_) (fun _ _ q => q.elim)
            obtain ⟨rfl, P39, hR, e39⟩ := q
            refine GJ.seq (st' := []) rfl ?_
            refine g_goto 85 X dX3_moveTrains_42 (by decide) ?_
            refine gp_iinc 1 X dX3_moveTrains_85 rfl (by decide) (fun x85 e85 => ?_)
            refine GJ.leq (lv' := [(2, .int x85), (3, .ref (ad 5 r i16)), (1, .int w), (0, .ref (ad 3 r 0))]) rfl ?_
            refine g_goto 10 X dX3_moveTrains_88 (by decide) ?_
            refine GJ.pick [0, 2, 3] rfl ?_
            exact ih x85 P39 _ hR (hmv P1 P39 i16 _ t16 hj (fIn_some hf16).1 hbe hb16 (by rw [← e25]; exact c30) ht16 e39) (by omega) (by rw [e85, hx2]; exact g_m1 _)
  refine g_aload_n X dX3_moveTrains_0 rfl ?_
  refine gp_get (j := 3) (v := .ref (ad 4 r 0)) X hR hl cl_X3 lk_X3_12 rfl (by decide) rfl rfl dX3_moveTrains_1 ?_
  refine gp_geti (j := 1) X hR hl cl_X4 lk_X3_79 rfl (by decide) rfl rfl dX3_moveTrains_4 (fun x4 e4 => ?_)
  refine g_iconst (v := 1) X dX3_moveTrains_7 (by decide) ?_
  refine g_isub X dX3_moveTrains_8 (fun x8 e8 => ?_)
  refine g_istore_n (lv' := [(2, .int x8), (0, .ref (ad 3 r 0)), (1, .int w)]) X dX3_moveTrains_9 (by decide) rfl ?_
  refine GJ.pick [0, 2, 1] rfl ?_
  exact L N x8 P h hR hj (Nat.le_refl N) (by rw [e8, e4, (hJ P hj).2.1])
end GRIDE3
