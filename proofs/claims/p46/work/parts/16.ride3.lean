/-! rides: moving, boarding (by any property that the steps keep), soundness -/
section GRIDE3
/-- what moving asks of a state -/
def mtPre (P : gP) (r N : Nat) : Prop := gLive P 3 r 0 ∧ pnB P r = N ∧ N ≤ 12 ∧ gChrs P r ∧ ∀ i, i < pnT P r → (∃ b, b < pnB P r ∧ pI P 5 r i 3 = nI b) ∧ ∃ l, Tr P r i l
/-- what boarding asks of a state -/
def bdPre (P : gP) (r i NG : Nat) : Prop := gLive P 3 r 0 ∧ gLive P 5 r i ∧ pnG P = NG ∧ (∃ s, s ≤ 8 ∧ pI P 5 r i 0 = nI s) ∧ (∃ t, Tr P r i t) ∧ ∀ q, q < 3 → ∃ l, Ln P r q l
def bdStep (J : gP → Prop) (r i : Nat) : Prop := ∀ (P : gP) (q : Nat) (l t : List Nat) (g idx : Nat), J P → q < 3 → Ln P r q l → l[idx]? = some g → Tr P r i t → t.length < 8 → J (fSeat (sLn P r q (l.eraseIdx idx)) r i t g)
theorem Tr.sLn {P : gP} {r i r2 q : Nat} {t l : List Nat} (h : Tr P r i t) : Tr (sLn P r2 q l) r i t := ⟨by rw [pI_sLn, if_neg (by simp)]; exact h.1, h.2.1, h.2.2.1, h.2.2.2⟩
theorem g_m1 (x : Int32) : x + Int32.ofInt (-1) = x - 1 := by rw [Int32.sub_eq_add_neg]; rfl
theorem fs_pos {s : Nat} {t : Nat} (hs : s ≤ 8) (ht : t ≤ 8) (h : 0 < nI s - nI t) : t < 8 := by
  rcases Nat.lt_or_ge t 8 with q | q
  · exact q
  · have ht8 : t = 8 := by omega
    subst ht8
    exfalso
    revert h
    rcases (show s = 0 ∨ s = 1 ∨ s = 2 ∨ s = 3 ∨ s = 4 ∨ s = 5 ∨ s = 6 ∨ s = 7 ∨ s = 8 by omega) with e | e | e | e | e | e | e | e | e <;> subst e <;> decide
set_option maxHeartbeats 4000000 in
set_option maxRecDepth 100000 in
theorem c_X3_moveTrains {Z : gEnv} {ad : gAd} {P : gP} {h : gH} (G : gG Z) (hR : gRep Z ad P h) {r N : Nat} {w : Int32} (J : gP → Prop) (hJ : ∀ P, J P → mtPre P r N) (hmv : ∀ P P2 i b l, J P → i < pnT P r → pI P 5 r i 3 = nI b → b < pnB P r → pI P 5 r i 5 = 109 → Tr P r i l → mvRel P P2 r i b l → J P2) (hgo : ∀ P i b, J P → i < pnT P r → pI P 5 r i 3 = nI b → b < pnB P r → pI P 5 r i 5 = 115 → fKS P r i b w = 46 → J (fGo P r i (fPath P r (pnB P r) b 0))) (hj : J P) : gMet Z yX3_moveTrains cX3_moveTrains 4 ((Option.none : Option FieldType)) 6 0 0 [.ref (ad 3 r 0), .int w] h (qM (fun h2 => ∃ P2, gRep Z ad P2 h2 ∧ J P2)) (qN) := by
  refine g_enter (lv := [(0, .ref (ad 3 r 0)), (1, .int w)]) G.2 (by decide +kernel) (Nat.le_of_ble_eq_true rfl) rfl (fun Γ X Nt E RM => ?_)
  have hl : gLive P 3 r 0 := (hJ P hj).1
  have hN12 : N ≤ 12 := (hJ P hj).2.2.1
  have L : ∀ (m : Nat) (x2 : Int32) (P1 : gP) (h : gH) (hR : gRep Z ad P1 h) (hj : J P1) (hm : m ≤ N) (h2 : x2 = nI m - 1), GJ Z Γ h 0 0 10 [(2, .int x2), (1, .int w), (0, .ref (ad 3 r 0))] [] := by
    intro m
    induction m with
    | zero =>
      intro x2 P1 h hR hj hm h2
      have hpre := hJ P1 hj
      have hl : gLive P1 3 r 0 := hpre.1
      have hB : pnB P1 r ≤ 12 := by rw [hpre.2.1]; exact hpre.2.2.1
      have hC : gChrs P1 r := hpre.2.2.2.1
      refine g_iload_n X dX3_moveTrains_10 rfl ?_
      refine g_if_lt 91 X dX3_moveTrains_11 (by decide) (fun c11 => ?_) (fun c11 => ?_)
      · skip
        refine g_return X E dX3_moveTrains_91 (by decide) (by decide) ?_
        exact ⟨rfl, _, hR, hj⟩
      · skip
        exact absurd (by rw [h2]; decide) c11
    | succ m ih =>
      intro x2 P1 h hR hj hm h2
      have hpre := hJ P1 hj
      have hl : gLive P1 3 r 0 := hpre.1
      have hB : pnB P1 r ≤ 12 := by rw [hpre.2.1]; exact hpre.2.2.1
      have hC : gChrs P1 r := hpre.2.2.2.1
      have hx2 : x2 = nI m := by rw [h2]; exact nI_pred m
      refine g_iload_n X dX3_moveTrains_10 rfl ?_
      refine g_if_lt 91 X dX3_moveTrains_11 (by decide) (fun c11 => ?_) (fun c11 => ?_)
      · skip
        exact absurd c11 (by rw [hx2]; exact nI_pos (by omega))
      · skip
        refine g_aload_n X dX3_moveTrains_14 rfl ?_
        refine g_iload_n X dX3_moveTrains_15 rfl ?_
        refine gp_V X RM lm_X3_59 (c_X3_trainIn G hR hl) cl_X3 hR hl rfl rfl rfl (Nat.le_of_ble_eq_true rfl) (by decide) (by decide) dX3_moveTrains_16 (fun v hz q => ?_) (fun _ _ q => q.elim)
        obtain ⟨w16, rfl, e16, rfl⟩ := q
        rcases hf16 : fIn P1 r x2 4 0 with _ | i16
        · skip
          rw [hf16] at e16
          subst e16
          refine GJ.seq (st' := [.null]) rfl ?_
          refine g_astore_nN (lv' := [(3, .null), (2, .int x2), (1, .int w), (0, .ref (ad 3 r 0))]) X dX3_moveTrains_19 (by decide) rfl ?_
          refine g_aload_nN X dX3_moveTrains_20 rfl ?_
          refine g_ifnullN 45 X dX3_moveTrains_21 (by decide) ?_
          refine g_aload_nN X dX3_moveTrains_45 rfl ?_
          refine g_ifnullN 85 X dX3_moveTrains_46 (by decide) ?_
          refine gp_iinc 1 X dX3_moveTrains_85 rfl (by decide) (fun x85 e85 => ?_)
          refine GJ.leq (lv' := [(2, .int x85), (3, .null), (1, .int w), (0, .ref (ad 3 r 0))]) rfl ?_
          refine g_goto 10 X dX3_moveTrains_88 (by decide) ?_
          refine GJ.pick [0, 2, 3] rfl ?_
          exact ih x85 P1 _ hR hj (by omega) (by rw [e85, hx2]; exact g_m1 _)
        · skip
          rw [hf16] at e16
          subst e16
          have hl16 : gLive P1 5 r i16 := ⟨(hl).1, (fIn_some hf16).1⟩
          refine GJ.seq (st' := [.ref (ad 5 r i16)]) rfl ?_
          refine g_astore_n (lv' := [(3, .ref (ad 5 r i16)), (2, .int x2), (1, .int w), (0, .ref (ad 3 r 0))]) X dX3_moveTrains_19 (by decide) rfl ?_
          refine g_aload_n X dX3_moveTrains_20 rfl ?_
          refine g_ifnull X dX3_moveTrains_21 ?_
          obtain ⟨⟨b16, hb16, hbe⟩, t16, ht16⟩ := hpre.2.2.2.2 i16 (fIn_some hf16).1
          have hbm : b16 = m := (nI_eq (by omega) (by omega)).mp (hbe.symm.trans ((fIn_some hf16).2.1.trans hx2))
          subst hbm
          refine g_aload_n X dX3_moveTrains_24 rfl ?_
          refine gp_geti (j := 5) X hR hl16 cl_X5 lk_X3_63 rfl (by decide) rfl rfl dX3_moveTrains_25 (fun x25 e25 => ?_)
          refine g_bipush (v := 109) X dX3_moveTrains_28 (by decide) ?_
          refine g_icmp_ne 45 X dX3_moveTrains_30 (by decide) (fun c30 => ?_) (fun c30 => ?_)
          · skip
            refine g_aload_n X dX3_moveTrains_45 rfl ?_
            refine g_ifnull X dX3_moveTrains_46 ?_
            refine g_iload_n X dX3_moveTrains_49 rfl ?_
            refine g_if_eq 85 X dX3_moveTrains_50 (by decide) (fun c50 => ?_) (fun c50 => ?_)
            · skip
              refine gp_iinc 1 X dX3_moveTrains_85 rfl (by decide) (fun x85 e85 => ?_)
              refine GJ.leq (lv' := [(2, .int x85), (3, .ref (ad 5 r i16)), (1, .int w), (0, .ref (ad 3 r 0))]) rfl ?_
              refine g_goto 10 X dX3_moveTrains_88 (by decide) ?_
              refine GJ.pick [0, 2, 3] rfl ?_
              exact ih x85 P1 _ hR hj (by omega) (by rw [e85, hx2]; exact g_m1 _)
            · skip
              refine g_aload_n X dX3_moveTrains_53 rfl ?_
              refine gp_geti (j := 5) X hR hl16 cl_X5 lk_X3_63 rfl (by decide) rfl rfl dX3_moveTrains_54 (fun x54 e54 => ?_)
              refine g_bipush (v := 115) X dX3_moveTrains_57 (by decide) ?_
              refine g_icmp_ne 85 X dX3_moveTrains_59 (by decide) (fun c59 => ?_) (fun c59 => ?_)
              · skip
                refine gp_iinc 1 X dX3_moveTrains_85 rfl (by decide) (fun x85 e85 => ?_)
                refine GJ.leq (lv' := [(2, .int x85), (3, .ref (ad 5 r i16)), (1, .int w), (0, .ref (ad 3 r 0))]) rfl ?_
                refine g_goto 10 X dX3_moveTrains_88 (by decide) ?_
                refine GJ.pick [0, 2, 3] rfl ?_
                exact ih x85 P1 _ hR hj (by omega) (by rw [e85, hx2]; exact g_m1 _)
              · skip
                refine g_aload_n X dX3_moveTrains_62 rfl ?_
                refine g_aload_n X dX3_moveTrains_63 rfl ?_
                refine g_iload_n X dX3_moveTrains_64 rfl ?_
                refine gp_V X RM lm_X3_117 (c_X3_whatKeepsInStop G hR hl hB hC (fIn_some hf16).1 hbe hb16) cl_X3 hR hl rfl rfl rfl (Nat.le_of_ble_eq_true rfl) (by decide) (by decide) dX3_moveTrains_65 (fun v hz q => ?_) (fun _ _ q => q.elim)
                obtain ⟨x65, rfl, e65, rfl⟩ := q
                refine GJ.seq (st' := [.int x65]) rfl ?_
                refine g_bipush (v := 46) X dX3_moveTrains_68 (by decide) ?_
                refine g_icmp_ne 85 X dX3_moveTrains_70 (by decide) (fun c70 => ?_) (fun c70 => ?_)
                · skip
                  refine gp_iinc 1 X dX3_moveTrains_85 rfl (by decide) (fun x85 e85 => ?_)
                  refine GJ.leq (lv' := [(2, .int x85), (3, .ref (ad 5 r i16)), (1, .int w), (0, .ref (ad 3 r 0))]) rfl ?_
                  refine g_goto 10 X dX3_moveTrains_88 (by decide) ?_
                  refine GJ.pick [0, 2, 3] rfl ?_
                  exact ih x85 P1 _ hR hj (by omega) (by rw [e85, hx2]; exact g_m1 _)
                · skip
                  refine g_aload_n X dX3_moveTrains_73 rfl ?_
                  refine g_aload_n X dX3_moveTrains_74 rfl ?_
                  refine gp_get (j := 3) (v := .ref (ad 4 r 0)) X hR hl cl_X3 lk_X3_12 rfl (by decide) rfl rfl dX3_moveTrains_75 ?_
                  refine g_iload_n X dX3_moveTrains_78 rfl ?_
                  refine gp_V X RM lm_X3_129 (c_X4_pathBehind G hR hl hB hx2 hb16) cl_X4 hR hl rfl rfl rfl (Nat.le_of_ble_eq_true rfl) (by decide) (by decide) dX3_moveTrains_79 (fun v hz q => ?_) (fun _ _ q => q.elim)
                  obtain ⟨x79, rfl, e79, rfl⟩ := q
                  refine GJ.seq (st' := [.int x79, .ref (ad 5 r i16)]) rfl ?_
                  refine gp_V X RM lm_X3_135 (c_X5_leaveStop G hR hl16) cl_X5 hR hl16 rfl rfl rfl (Nat.le_of_ble_eq_true rfl) (by decide) (by decide) dX3_moveTrains_82 (fun v hz q => ?_) (fun _ _ q => q.elim)
                  obtain ⟨rfl, P82, hR, e82⟩ := q
                  refine GJ.seq (st' := []) rfl ?_
                  refine gp_iinc 1 X dX3_moveTrains_85 rfl (by decide) (fun x85 e85 => ?_)
                  refine GJ.leq (lv' := [(2, .int x85), (3, .ref (ad 5 r i16)), (1, .int w), (0, .ref (ad 3 r 0))]) rfl ?_
                  refine g_goto 10 X dX3_moveTrains_88 (by decide) ?_
                  refine GJ.pick [0, 2, 3] rfl ?_
                  exact ih x85 P82 _ hR (by rw [e82, e79]; exact hgo P1 i16 _ hj (fIn_some hf16).1 hbe hb16 (by rw [← e54]; exact c59) (by rw [← e65]; exact c70)) (by omega) (by rw [e85, hx2]; exact g_m1 _)
          · skip
            refine g_aload_n X dX3_moveTrains_33 rfl ?_
            refine g_aload_n X dX3_moveTrains_34 rfl ?_
            refine gp_get (j := 3) (v := .ref (ad 4 r 0)) X hR hl cl_X3 lk_X3_12 rfl (by decide) rfl rfl dX3_moveTrains_35 ?_
            refine g_iload_n X dX3_moveTrains_38 rfl ?_
            refine gp_V X RM lm_X3_142 (c_X5_moveOn G hR hl16 ht16 hB hbe hb16) cl_X5 hR hl16 rfl rfl rfl (Nat.le_of_ble_eq_true rfl) (by decide) (by decide) dX3_moveTrains_39 (fun v hz q => ?_) (fun _ _ q => q.elim)
            obtain ⟨rfl, P39, hR, e39⟩ := q
            refine GJ.seq (st' := []) rfl ?_
            refine g_goto 85 X dX3_moveTrains_42 (by decide) ?_
            refine gp_iinc 1 X dX3_moveTrains_85 rfl (by decide) (fun x85 e85 => ?_)
            refine GJ.leq (lv' := [(2, .int x85), (3, .ref (ad 5 r i16)), (1, .int w), (0, .ref (ad 3 r 0))]) rfl ?_
            refine g_goto 10 X dX3_moveTrains_88 (by decide) ?_
            refine GJ.pick [0, 2, 3] rfl ?_
            exact ih x85 P39 _ hR (hmv P1 P39 i16 _ t16 hj (fIn_some hf16).1 hbe hb16 (by rw [← e25]; exact c30) ht16 e39) (by omega) (by rw [e85, hx2]; exact g_m1 _)
  refine g_aload_n X dX3_moveTrains_0 rfl ?_
  refine gp_get (j := 3) (v := .ref (ad 4 r 0)) X hR hl cl_X3 lk_X3_12 rfl (by decide) rfl rfl dX3_moveTrains_1 ?_
  refine gp_geti (j := 1) X hR hl cl_X4 lk_X3_79 rfl (by decide) rfl rfl dX3_moveTrains_4 (fun x4 e4 => ?_)
  refine g_iconst (v := 1) X dX3_moveTrains_7 (by decide) ?_
  refine g_isub X dX3_moveTrains_8 (fun x8 e8 => ?_)
  refine g_istore_n (lv' := [(2, .int x8), (0, .ref (ad 3 r 0)), (1, .int w)]) X dX3_moveTrains_9 (by decide) rfl ?_
  refine GJ.pick [0, 2, 1] rfl ?_
  exact L N x8 P h hR hj (Nat.le_refl N) (by rw [e8, e4, (hJ P hj).2.1])
set_option maxHeartbeats 4000000 in
set_option maxRecDepth 100000 in
theorem c_X3_boardOneByOne {Z : gEnv} {ad : gAd} {P : gP} {h : gH} (G : gG Z) (hR : gRep Z ad P h) {r q : Nat} (hq : q < 3) {i NG : Nat} (J : gP → Prop) (hJ : ∀ P, J P → bdPre P r i NG) (hst : bdStep J r i) (hj : J P) : gMet Z yX3_boardOneByOne cX3_boardOneByOne 4 ((Option.none : Option FieldType)) 3 0 0 [.ref (ad 2 r q), .ref (ad 5 r i)] h (qM (fun h2 => ∃ P2, gRep Z ad P2 h2 ∧ J P2)) (qN) := by
  refine g_enter (lv := [(0, .ref (ad 2 r q)), (1, .ref (ad 5 r i))]) G.2 (by decide +kernel) (Nat.le_of_ble_eq_true rfl) rfl (fun Γ X Nt E RM => ?_)
  have L : ∀ (m : Nat) (k : Nat) (x2 : Int32) (P1 : gP) (h : gH) (hR : gRep Z ad P1 h) (hj : J P1) (hm : m + k = 8) (h2 : x2 = nI k), GJ Z Γ h 0 0 2 [(2, .int x2), (1, .ref (ad 5 r i)), (0, .ref (ad 2 r q))] [] := by
    intro m
    induction m with
    | zero =>
      intro k x2 P1 h hR hj hm h2
      obtain ⟨hlr, hlT, hnG, ⟨sz, hsz, hse⟩, ⟨t, hT⟩, hLs⟩ := hJ P1 hj
      obtain ⟨l, hL⟩ := hLs q hq
      have hlq : gLive P1 2 r q := ⟨hlr.1, hq⟩
      refine g_iload_n X dX3_boardOneByOne_2 rfl ?_
      refine g_bipush (v := 8) X dX3_boardOneByOne_3 (by decide) ?_
      refine g_icmp_ge 41 X dX3_boardOneByOne_5 (by decide) (fun c5 => ?_) (fun c5 => ?_)
      · skip
        refine g_return X E dX3_boardOneByOne_41 (by decide) (by decide) ?_
        exact ⟨rfl, _, hR, hj⟩
      · skip
        exact absurd c5 (by rw [h2]; exact nI_nlt (b := 8) (by omega) (by omega))
    | succ m ih =>
      intro k x2 P1 h hR hj hm h2
      obtain ⟨hlr, hlT, hnG, ⟨sz, hsz, hse⟩, ⟨t, hT⟩, hLs⟩ := hJ P1 hj
      obtain ⟨l, hL⟩ := hLs q hq
      have hlq : gLive P1 2 r q := ⟨hlr.1, hq⟩
      refine g_iload_n X dX3_boardOneByOne_2 rfl ?_
      refine g_bipush (v := 8) X dX3_boardOneByOne_3 (by decide) ?_
      refine g_icmp_ge 41 X dX3_boardOneByOne_5 (by decide) (fun c5 => ?_) (fun c5 => ?_)
      · skip
        exact absurd (by rw [h2]; exact nI_lt (b := 8) (by omega) (by omega)) c5
      · skip
        refine g_aload_n X dX3_boardOneByOne_8 rfl ?_
        refine gp_V X RM lm_X3_157 (c_X5_freeSeats G hR hlT) cl_X5 hR hlT rfl rfl rfl (Nat.le_of_ble_eq_true rfl) (by decide) (by decide) dX3_boardOneByOne_9 (fun v hz q => ?_) (fun _ _ q => q.elim)
        obtain ⟨x9, rfl, e9, rfl⟩ := q
        refine GJ.seq (st' := [.int x9]) rfl ?_
        refine g_if_le 41 X dX3_boardOneByOne_12 (by decide) (fun c12 => ?_) (fun c12 => ?_)
        · skip
          refine g_return X E dX3_boardOneByOne_41 (by decide) (by decide) ?_
          exact ⟨rfl, _, hR, hj⟩
        · skip
          have htl : t.length < 8 := fs_pos hsz hT.2.2.1 (by rw [← hse, ← hT.1, ← e9]; exact c12)
          refine g_aload_n X dX3_boardOneByOne_15 rfl ?_
          refine gp_V X RM lm_X3_160 (c_X2_first G hR hlq hL) cl_X2 hR hlq rfl rfl rfl (Nat.le_of_ble_eq_true rfl) (by decide) (by decide) dX3_boardOneByOne_16 (fun v hz q => ?_) (fun _ _ q => q.elim)
          obtain ⟨w16, rfl, e16, rfl⟩ := q
          rcases e16 with ⟨f16, rfl⟩ | ⟨g16, t16, f16, rfl⟩
          · skip
            refine GJ.seq (st' := [.null]) rfl ?_
            refine g_astore_nN (lv' := [(3, .null), (2, .int x2), (1, .ref (ad 5 r i)), (0, .ref (ad 2 r q))]) X dX3_boardOneByOne_19 (by decide) rfl ?_
            refine g_aload_nN X dX3_boardOneByOne_20 rfl ?_
            refine g_ifnonnullN X dX3_boardOneByOne_21 ?_
            refine g_return X E dX3_boardOneByOne_24 (by decide) (by decide) ?_
            exact ⟨rfl, _, hR, hj⟩
          · skip
            have hl16 : gLive P1 1 g16 0 := ⟨hL.2.2.2 g16 (by rw [f16]; exact List.mem_cons_self), rfl⟩
            refine GJ.seq (st' := [.ref (ad 1 g16 0)]) rfl ?_
            refine g_astore_n (lv' := [(3, .ref (ad 1 g16 0)), (2, .int x2), (1, .ref (ad 5 r i)), (0, .ref (ad 2 r q))]) X dX3_boardOneByOne_19 (by decide) rfl ?_
            refine g_aload_n X dX3_boardOneByOne_20 rfl ?_
            refine g_ifnonnull 25 X dX3_boardOneByOne_21 (by decide) ?_
            refine g_aload_n X dX3_boardOneByOne_25 rfl ?_
            refine g_aload_n X dX3_boardOneByOne_26 rfl ?_
            refine gp_V X RM lm_X3_164 (c_X2_takeOut G hR hlq hL hl16) cl_X2 hR hlq rfl rfl rfl (Nat.le_of_ble_eq_true rfl) (by decide) (by decide) dX3_boardOneByOne_27 (fun v hz q => ?_) (fun _ _ q => q.elim)
            obtain ⟨rfl, _, hR, rfl⟩ := q
            refine GJ.seq (st' := []) rfl ?_
            refine g_aload_n X dX3_boardOneByOne_30 rfl ?_
            refine g_aload_n X dX3_boardOneByOne_31 rfl ?_
            refine gp_V X RM lm_X3_168 (c_X5_seat G hR hlT hT.sLn htl hl16) cl_X5 hR hlT rfl rfl rfl (Nat.le_of_ble_eq_true rfl) (by decide) (by decide) dX3_boardOneByOne_32 (fun v hz q => ?_) (fun _ _ q => q.elim)
            obtain ⟨rfl, P32, hR, e32⟩ := q
            refine GJ.seq (st' := []) rfl ?_
            refine gp_iinc 1 X dX3_boardOneByOne_35 rfl (by decide) (fun x35 e35 => ?_)
            refine GJ.leq (lv' := [(2, .int x35), (3, .ref (ad 1 g16 0)), (1, .ref (ad 5 r i)), (0, .ref (ad 2 r q))]) rfl ?_
            refine g_goto 2 X dX3_boardOneByOne_38 (by decide) ?_
            refine GJ.pick [0, 2, 3] rfl ?_
            have he : l.erase g16 = l.eraseIdx 0 := by rw [f16]; simp
            exact ih (k + 1) x35 P32 _ hR (by rw [e32, he]; exact hst P1 q l t g16 0 hj hq hL (by rw [f16]; rfl) hT htl) (by omega) (by rw [e35, h2]; exact nI_1 k)
  refine g_iconst (v := 0) X dX3_boardOneByOne_0 (by decide) ?_
  refine g_istore_n (lv' := [(2, .int 0), (0, .ref (ad 2 r q)), (1, .ref (ad 5 r i))]) X dX3_boardOneByOne_1 (by decide) rfl ?_
  refine GJ.pick [0, 2, 1] rfl ?_
  exact L 8 0 0 P h hR hj rfl rfl
set_option maxHeartbeats 4000000 in
set_option maxRecDepth 100000 in
theorem c_X3_boardParty {Z : gEnv} {ad : gAd} {P : gP} {h : gH} (G : gG Z) (hR : gRep Z ad P h) {r : Nat} {i NG : Nat} (J : gP → Prop) (hJ : ∀ P, J P → bdPre P r i NG) (hst : bdStep J r i) (hj : J P) {o : Nat} (ho : o < NG) : gMet Z yX3_boardParty cX3_boardParty 5 ((Option.none : Option FieldType)) 3 0 0 [.ref (ad 3 r 0), .ref (ad 1 o 0), .ref (ad 5 r i)] h (qM (fun h2 => ∃ P2, gRep Z ad P2 h2 ∧ J P2)) (qN) := by
  refine g_enter (lv := [(0, .ref (ad 3 r 0)), (1, .ref (ad 1 o 0)), (2, .ref (ad 5 r i))]) G.2 (by decide +kernel) (Nat.le_of_ble_eq_true rfl) rfl (fun Γ X Nt E RM => ?_)
  have L : ∀ (m : Nat) (k : Nat) (x3 : Int32) (P1 : gP) (h : gH) (hR : gRep Z ad P1 h) (hj : J P1) (hm : m + k = 8) (h3 : x3 = nI k), GJ Z Γ h 0 0 2 [(3, .int x3), (2, .ref (ad 5 r i)), (1, .ref (ad 1 o 0)), (0, .ref (ad 3 r 0))] [] := by
    intro m
    induction m with
    | zero =>
      intro k x3 P1 h hR hj hm h3
      obtain ⟨hlr, hlT, hnG, ⟨sz, hsz, hse⟩, ⟨t, hT⟩, hLs⟩ := hJ P1 hj
      obtain ⟨l, hL⟩ := hLs 0 (by decide)
      have hlo : gLive P1 1 o 0 := ⟨by rw [hnG]; exact ho, rfl⟩
      refine g_iload_n X dX3_boardParty_2 rfl ?_
      refine g_bipush (v := 8) X dX3_boardParty_3 (by decide) ?_
      refine g_icmp_ge 43 X dX3_boardParty_5 (by decide) (fun c5 => ?_) (fun c5 => ?_)
      · skip
        refine g_return X E dX3_boardParty_43 (by decide) (by decide) ?_
        exact ⟨rfl, _, hR, hj⟩
      · skip
        exact absurd c5 (by rw [h3]; exact nI_nlt (b := 8) (by omega) (by omega))
    | succ m ih =>
      intro k x3 P1 h hR hj hm h3
      obtain ⟨hlr, hlT, hnG, ⟨sz, hsz, hse⟩, ⟨t, hT⟩, hLs⟩ := hJ P1 hj
      obtain ⟨l, hL⟩ := hLs 0 (by decide)
      have hlo : gLive P1 1 o 0 := ⟨by rw [hnG]; exact ho, rfl⟩
      refine g_iload_n X dX3_boardParty_2 rfl ?_
      refine g_bipush (v := 8) X dX3_boardParty_3 (by decide) ?_
      refine g_icmp_ge 43 X dX3_boardParty_5 (by decide) (fun c5 => ?_) (fun c5 => ?_)
      · skip
        exact absurd (by rw [h3]; exact nI_lt (b := 8) (by omega) (by omega)) c5
      · skip
        refine g_aload_n X dX3_boardParty_8 rfl ?_
        refine gp_V X RM lm_X3_157 (c_X5_freeSeats G hR hlT) cl_X5 hR hlT rfl rfl rfl (Nat.le_of_ble_eq_true rfl) (by decide) (by decide) dX3_boardParty_9 (fun v hz q => ?_) (fun _ _ q => q.elim)
        obtain ⟨x9, rfl, e9, rfl⟩ := q
        refine GJ.seq (st' := [.int x9]) rfl ?_
        refine g_if_le 43 X dX3_boardParty_12 (by decide) (fun c12 => ?_) (fun c12 => ?_)
        · skip
          refine g_return X E dX3_boardParty_43 (by decide) (by decide) ?_
          exact ⟨rfl, _, hR, hj⟩
        · skip
          have htl : t.length < 8 := fs_pos hsz hT.2.2.1 (by rw [← hse, ← hT.1, ← e9]; exact c12)
          refine g_aload_n X dX3_boardParty_15 rfl ?_
          refine gp_get (j := 6) (v := .ref (ad 2 r 0)) X hR hlr cl_X3 lk_X3_27 rfl (by decide) rfl rfl dX3_boardParty_16 ?_
          refine g_aload_n X dX3_boardParty_19 rfl ?_
          refine gp_V X RM lm_X3_182 (c_X2_takeOneOf G hR (⟨hlr.1, by decide⟩) hL hlo) cl_X2 hR (⟨hlr.1, by decide⟩) rfl rfl rfl (Nat.le_of_ble_eq_true rfl) (by decide) (by decide) dX3_boardParty_20 (fun v hz q => ?_) (fun _ _ q => q.elim)
          obtain ⟨w20, rfl, P20, hR, e20⟩ := q
          rcases e20 with ⟨rfl, f20⟩ | ⟨i20, g20, f20, rfl, f20b⟩
          · skip
            refine GJ.seq (st' := [.null]) rfl ?_
            refine g_astoreN (lv' := [(4, .null), (3, .int x3), (2, .ref (ad 5 r i)), (1, .ref (ad 1 o 0)), (0, .ref (ad 3 r 0))]) X dX3_boardParty_23 (by decide) rfl ?_
            refine g_aloadN X dX3_boardParty_25 rfl ?_
            refine g_ifnonnullN X dX3_boardParty_27 ?_
            refine g_return X E dX3_boardParty_30 (by decide) (by decide) ?_
            exact ⟨rfl, P20, hR, by rw [f20]; exact hj⟩
          · skip
            have hl20 : gLive P20 1 g20 0 := by rw [f20b]; exact ⟨hL.2.2.2 g20 (List.mem_of_getElem? f20), rfl⟩
            refine GJ.seq (st' := [.ref (ad 1 g20 0)]) rfl ?_
            refine g_astore (lv' := [(4, .ref (ad 1 g20 0)), (3, .int x3), (2, .ref (ad 5 r i)), (1, .ref (ad 1 o 0)), (0, .ref (ad 3 r 0))]) X dX3_boardParty_23 (by decide) rfl ?_
            refine g_aload X dX3_boardParty_25 rfl ?_
            refine g_ifnonnull 31 X dX3_boardParty_27 (by decide) ?_
            have hlT2 : gLive P20 5 r i := by rw [f20b]; exact hlT
            refine g_aload_n X dX3_boardParty_31 rfl ?_
            refine g_aload X dX3_boardParty_32 rfl ?_
            refine gp_V X RM lm_X3_168 (c_X5_seat G hR hlT2 (show Tr P20 r i t by rw [f20b]; exact hT.sLn) htl hl20) cl_X5 hR hlT2 rfl rfl rfl (Nat.le_of_ble_eq_true rfl) (by decide) (by decide) dX3_boardParty_34 (fun v hz q => ?_) (fun _ _ q => q.elim)
            obtain ⟨rfl, P34, hR, e34⟩ := q
            refine GJ.seq (st' := []) rfl ?_
            refine gp_iinc 1 X dX3_boardParty_37 rfl (by decide) (fun x37 e37 => ?_)
            refine GJ.leq (lv' := [(3, .int x37), (4, .ref (ad 1 g20 0)), (2, .ref (ad 5 r i)), (1, .ref (ad 1 o 0)), (0, .ref (ad 3 r 0))]) rfl ?_
            refine g_goto 2 X dX3_boardParty_40 (by decide) ?_
            refine GJ.pick [0, 2, 3, 4] rfl ?_
            exact ih (k + 1) x37 P34 _ hR (by rw [e34, f20b]; exact hst P1 0 l t g20 i20 hj (by decide) hL f20 hT htl) (by omega) (by rw [e37, h3]; exact nI_1 k)
  refine g_iconst (v := 0) X dX3_boardParty_0 (by decide) ?_
  refine g_istore_n (lv' := [(3, .int 0), (0, .ref (ad 3 r 0)), (1, .ref (ad 1 o 0)), (2, .ref (ad 5 r i))]) X dX3_boardParty_1 (by decide) rfl ?_
  refine GJ.pick [0, 3, 2, 1] rfl ?_
  exact L 8 0 0 P h hR hj rfl rfl
set_option maxHeartbeats 4000000 in
set_option maxRecDepth 100000 in
theorem c_X3_boardParties {Z : gEnv} {ad : gAd} {P : gP} {h : gH} (G : gG Z) (hR : gRep Z ad P h) {r : Nat} {i NG : Nat} (J : gP → Prop) (hJ : ∀ P, J P → bdPre P r i NG) (hst : bdStep J r i) (hj : J P) : gMet Z yX3_boardParties cX3_boardParties 6 ((Option.none : Option FieldType)) 4 0 0 [.ref (ad 3 r 0), .ref (ad 5 r i)] h (qM (fun h2 => ∃ P2, gRep Z ad P2 h2 ∧ J P2)) (qN) := by
  refine g_enter (lv := [(0, .ref (ad 3 r 0)), (1, .ref (ad 5 r i))]) G.2 (by decide +kernel) (Nat.le_of_ble_eq_true rfl) rfl (fun Γ X Nt E RM => ?_)
  have L : ∀ (m : Nat) (k : Nat) (x2 : Int32) (P1 : gP) (h : gH) (hR : gRep Z ad P1 h) (hj : J P1) (hm : m + k = 60) (h2 : x2 = nI k), GJ Z Γ h 0 0 2 [(2, .int x2), (1, .ref (ad 5 r i)), (0, .ref (ad 3 r 0))] [] := by
    intro m
    induction m with
    | zero =>
      intro k x2 P1 h hR hj hm h2
      obtain ⟨hlr, hlT, hnG, ⟨sz, hsz, hse⟩, ⟨t, hT⟩, hLs⟩ := hJ P1 hj
      obtain ⟨l, hL⟩ := hLs 0 (by decide)
      refine g_iload_n X dX3_boardParties_2 rfl ?_
      refine g_bipush (v := 60) X dX3_boardParties_3 (by decide) ?_
      refine g_icmp_ge 79 X dX3_boardParties_5 (by decide) (fun c5 => ?_) (fun c5 => ?_)
      · skip
        refine g_return X E dX3_boardParties_79 (by decide) (by decide) ?_
        exact ⟨rfl, _, hR, hj⟩
      · skip
        exact absurd c5 (by rw [h2]; exact nI_nlt (b := 60) (by omega) (by omega))
    | succ m ih =>
      intro k x2 P1 h hR hj hm h2
      obtain ⟨hlr, hlT, hnG, ⟨sz, hsz, hse⟩, ⟨t, hT⟩, hLs⟩ := hJ P1 hj
      obtain ⟨l, hL⟩ := hLs 0 (by decide)
      refine g_iload_n X dX3_boardParties_2 rfl ?_
      refine g_bipush (v := 60) X dX3_boardParties_3 (by decide) ?_
      refine g_icmp_ge 79 X dX3_boardParties_5 (by decide) (fun c5 => ?_) (fun c5 => ?_)
      · skip
        exact absurd (by rw [h2]; exact nI_lt (b := 60) (by omega) (by omega)) c5
      · skip
        refine g_aload_n X dX3_boardParties_8 rfl ?_
        refine gp_get (j := 6) (v := .ref (ad 2 r 0)) X hR hlr cl_X3 lk_X3_27 rfl (by decide) rfl rfl dX3_boardParties_9 ?_
        refine gp_V X RM lm_X3_160 (c_X2_first G hR (⟨hlr.1, by decide⟩) hL) cl_X2 hR (⟨hlr.1, by decide⟩) rfl rfl rfl (Nat.le_of_ble_eq_true rfl) (by decide) (by decide) dX3_boardParties_12 (fun v hz q => ?_) (fun _ _ q => q.elim)
        obtain ⟨w12, rfl, e12, rfl⟩ := q
        rcases e12 with ⟨f12, rfl⟩ | ⟨g12, t12, f12, rfl⟩
        · skip
          refine GJ.seq (st' := [.null]) rfl ?_
          refine g_astore_nN (lv' := [(3, .null), (2, .int x2), (1, .ref (ad 5 r i)), (0, .ref (ad 3 r 0))]) X dX3_boardParties_15 (by decide) rfl ?_
          refine g_aload_nN X dX3_boardParties_16 rfl ?_
          refine g_ifnonnullN X dX3_boardParties_17 ?_
          refine g_return X E dX3_boardParties_20 (by decide) (by decide) ?_
          exact ⟨rfl, _, hR, hj⟩
        · skip
          have hl12 : gLive P1 1 g12 0 := ⟨hL.2.2.2 g12 (by rw [f12]; exact List.mem_cons_self), rfl⟩
          refine GJ.seq (st' := [.ref (ad 1 g12 0)]) rfl ?_
          refine g_astore_n (lv' := [(3, .ref (ad 1 g12 0)), (2, .int x2), (1, .ref (ad 5 r i)), (0, .ref (ad 3 r 0))]) X dX3_boardParties_15 (by decide) rfl ?_
          refine g_aload_n X dX3_boardParties_16 rfl ?_
          refine g_ifnonnull 21 X dX3_boardParties_17 (by decide) ?_
          refine g_aload_n X dX3_boardParties_21 rfl ?_
          refine gp_get (j := 6) (v := .ref (ad 2 r 0)) X hR hlr cl_X3 lk_X3_27 rfl (by decide) rfl rfl dX3_boardParties_22 ?_
          refine g_aload_n X dX3_boardParties_25 rfl ?_
          refine gp_V X RM lm_X3_171 (c_X2_partyOf G hR (⟨hlr.1, by decide⟩) hL hl12) cl_X2 hR (⟨hlr.1, by decide⟩) rfl rfl rfl (Nat.le_of_ble_eq_true rfl) (by decide) (by decide) dX3_boardParties_26 (fun v hz q => ?_) (fun _ _ q => q.elim)
          obtain ⟨x26, rfl, e26, rfl⟩ := q
          refine GJ.seq (st' := [.int x26]) rfl ?_
          refine g_istore (lv' := [(4, .int x26), (3, .ref (ad 1 g12 0)), (2, .int x2), (1, .ref (ad 5 r i)), (0, .ref (ad 3 r 0))]) X dX3_boardParties_29 (by decide) rfl ?_
          refine g_iload X dX3_boardParties_31 rfl ?_
          refine g_aload_n X dX3_boardParties_33 rfl ?_
          refine gp_V X RM lm_X3_157 (c_X5_freeSeats G hR hlT) cl_X5 hR hlT rfl rfl rfl (Nat.le_of_ble_eq_true rfl) (by decide) (by decide) dX3_boardParties_34 (fun v hz q => ?_) (fun _ _ q => q.elim)
          obtain ⟨x34, rfl, e34, rfl⟩ := q
          refine GJ.seq (st' := [.int x34, .int x26]) rfl ?_
          refine g_icmp_gt 44 X dX3_boardParties_37 (by decide) (fun c37 => ?_) (fun c37 => ?_)
          · skip
            refine g_iconst (v := 0) X dX3_boardParties_44 (by decide) ?_
            refine g_istore (lv' := [(5, .int 0), (4, .int x26), (3, .ref (ad 1 g12 0)), (2, .int x2), (1, .ref (ad 5 r i)), (0, .ref (ad 3 r 0))]) X dX3_boardParties_45 (by decide) rfl ?_
            refine g_iload X dX3_boardParties_47 rfl ?_
            refine g_if_ne 61 X dX3_boardParties_49 (by decide) (fun c49 => ?_) (fun c49 => ?_)
            · skip
              exact absurd c49 (by decide)
            · skip
              refine g_aload_n X dX3_boardParties_52 rfl ?_
              refine g_iload X dX3_boardParties_53 rfl ?_
              refine gp_V X RM lm_X3_175 (c_X5_isLargerParty G hR hlT) cl_X5 hR hlT rfl rfl rfl (Nat.le_of_ble_eq_true rfl) (by decide) (by decide) dX3_boardParties_55 (fun v hz q => ?_) (fun _ _ q => q.elim)
              obtain ⟨x55, rfl, e55, rfl⟩ := q
              refine GJ.seq (st' := [.int x55]) rfl ?_
              refine g_if_eq 67 X dX3_boardParties_58 (by decide) (fun c58 => ?_) (fun c58 => ?_)
              · skip
                refine g_iload X dX3_boardParties_67 rfl ?_
                refine g_if_ne 73 X dX3_boardParties_69 (by decide) (fun c69 => ?_) (fun c69 => ?_)
                · skip
                  exact absurd c69 (by decide)
                · skip
                  refine g_return X E dX3_boardParties_72 (by decide) (by decide) ?_
                  exact ⟨rfl, _, hR, hj⟩
              · skip
                refine g_aload_n X dX3_boardParties_61 rfl ?_
                refine g_aload_n X dX3_boardParties_62 rfl ?_
                refine g_aload_n X dX3_boardParties_63 rfl ?_
                refine gp_V X RM lm_X3_178 (c_X3_boardParty G hR J hJ hst hj (o := g12) (by rw [← hnG]; exact hl12.1)) cl_X3 hR hlr rfl rfl rfl (Nat.le_of_ble_eq_true rfl) (by decide) (by decide) dX3_boardParties_64 (fun v hz q => ?_) (fun _ _ q => q.elim)
                obtain ⟨rfl, P64, hR, hj64⟩ := q
                refine GJ.seq (st' := []) rfl ?_
                refine g_iload X dX3_boardParties_67 rfl ?_
                refine g_if_ne 73 X dX3_boardParties_69 (by decide) (fun c69 => ?_) (fun c69 => ?_)
                · skip
                  exact absurd c69 (by decide)
                · skip
                  refine g_return X E dX3_boardParties_72 (by decide) (by decide) ?_
                  exact ⟨rfl, _, hR, hj64⟩
          · skip
            refine g_iconst (v := 1) X dX3_boardParties_40 (by decide) ?_
            refine g_goto 45 X dX3_boardParties_41 (by decide) ?_
            refine g_istore (lv' := [(5, .int 1), (4, .int x26), (3, .ref (ad 1 g12 0)), (2, .int x2), (1, .ref (ad 5 r i)), (0, .ref (ad 3 r 0))]) X dX3_boardParties_45 (by decide) rfl ?_
            refine g_iload X dX3_boardParties_47 rfl ?_
            refine g_if_ne 61 X dX3_boardParties_49 (by decide) (fun c49 => ?_) (fun c49 => ?_)
            · skip
              refine g_aload_n X dX3_boardParties_61 rfl ?_
              refine g_aload_n X dX3_boardParties_62 rfl ?_
              refine g_aload_n X dX3_boardParties_63 rfl ?_
              refine gp_V X RM lm_X3_178 (c_X3_boardParty G hR J hJ hst hj (o := g12) (by rw [← hnG]; exact hl12.1)) cl_X3 hR hlr rfl rfl rfl (Nat.le_of_ble_eq_true rfl) (by decide) (by decide) dX3_boardParties_64 (fun v hz q => ?_) (fun _ _ q => q.elim)
              obtain ⟨rfl, P64, hR, hj64⟩ := q
              refine GJ.seq (st' := []) rfl ?_
              refine g_iload X dX3_boardParties_67 rfl ?_
              refine g_if_ne 73 X dX3_boardParties_69 (by decide) (fun c69 => ?_) (fun c69 => ?_)
              · skip
                refine gp_iinc 3 X dX3_boardParties_73 rfl (by decide) (fun x73 e73 => ?_)
                refine GJ.leq (lv' := [(2, .int x73), (5, .int 1), (4, .int x26), (3, .ref (ad 1 g12 0)), (1, .ref (ad 5 r i)), (0, .ref (ad 3 r 0))]) rfl ?_
                refine g_goto 2 X dX3_boardParties_76 (by decide) ?_
                refine GJ.pick [0, 4, 5] rfl ?_
                exact ih (k + 1) x73 P64 _ hR hj64 (by omega) (by rw [e73, h2]; exact nI_1 k)
              · skip
                exact absurd c69 (by decide)
            · skip
              exact absurd c49 (by decide)
  refine g_iconst (v := 0) X dX3_boardParties_0 (by decide) ?_
  refine g_istore_n (lv' := [(2, .int 0), (0, .ref (ad 3 r 0)), (1, .ref (ad 5 r i))]) X dX3_boardParties_1 (by decide) rfl ?_
  refine GJ.pick [0, 2, 1] rfl ?_
  exact L 60 0 0 P h hR hj rfl rfl
set_option maxHeartbeats 4000000 in
set_option maxRecDepth 100000 in
theorem c_X3_board {Z : gEnv} {ad : gAd} {P : gP} {h : gH} (G : gG Z) (hR : gRep Z ad P h) {r : Nat} {i NG : Nat} (J : gP → Prop) (hJ : ∀ P, J P → bdPre P r i NG) (hst : bdStep J r i) (hj : J P) : gMet Z yX3_board cX3_board 3 ((Option.some FieldType.int)) 5 0 0 [.ref (ad 3 r 0), .ref (ad 5 r i)] h (qIM (fun x h2 => ∃ P2, gRep Z ad P2 h2 ∧ J P2 ∧ x = pI P2 5 r i 2 - pI P 5 r i 2)) (qN) := by
  refine g_enter (lv := [(0, .ref (ad 3 r 0)), (1, .ref (ad 5 r i))]) G.2 (by decide +kernel) (Nat.le_of_ble_eq_true rfl) rfl (fun Γ X Nt E RM => ?_)
  obtain ⟨hlr, hlT, -⟩ := hJ P hj
  refine g_aload_n X dX3_board_0 rfl ?_
  refine gp_geti (j := 2) X hR hlT cl_X5 lk_X3_146 rfl (by decide) rfl rfl dX3_board_1 (fun x1 e1 => ?_)
  refine g_istore_n (lv' := [(2, .int x1), (0, .ref (ad 3 r 0)), (1, .ref (ad 5 r i))]) X dX3_board_4 (by decide) rfl ?_
  refine g_aload_n X dX3_board_5 rfl ?_
  refine gp_get (j := 8) (v := .ref (ad 2 r 2)) X hR hlr cl_X3 lk_X3_34 rfl (by decide) rfl rfl dX3_board_6 ?_
  refine g_aload_n X dX3_board_9 rfl ?_
  refine gp_S X RM lm_X3_149 (c_X3_boardOneByOne G hR (q := 2) (by decide) J hJ hst hj) rfl rfl (Nat.le_of_ble_eq_true rfl) (by decide) (by decide) dX3_board_10 (fun v hz q => ?_) (fun _ _ q => q.elim)
  obtain ⟨rfl, P10, hR, hj10⟩ := q
  refine GJ.seq (st' := []) rfl ?_
  obtain ⟨hlr10, hlT10, -⟩ := hJ P10 hj10
  refine g_aload_n X dX3_board_13 rfl ?_
  refine g_aload_n X dX3_board_14 rfl ?_
  refine gp_V X RM lm_X3_153 (c_X3_boardParties G hR J hJ hst hj10) cl_X3 hR hlr10 rfl rfl rfl (Nat.le_of_ble_eq_true rfl) (by decide) (by decide) dX3_board_15 (fun v hz q => ?_) (fun _ _ q => q.elim)
  obtain ⟨rfl, P15, hR, hj15⟩ := q
  refine GJ.seq (st' := []) rfl ?_
  obtain ⟨hlr15, hlT15, -⟩ := hJ P15 hj15
  refine g_aload_n X dX3_board_18 rfl ?_
  refine gp_get (j := 7) (v := .ref (ad 2 r 1)) X hR hlr15 cl_X3 lk_X3_31 rfl (by decide) rfl rfl dX3_board_19 ?_
  refine g_aload_n X dX3_board_22 rfl ?_
  refine gp_S X RM lm_X3_149 (c_X3_boardOneByOne G hR (q := 1) (by decide) J hJ hst hj15) rfl rfl (Nat.le_of_ble_eq_true rfl) (by decide) (by decide) dX3_board_23 (fun v hz q => ?_) (fun _ _ q => q.elim)
  obtain ⟨rfl, P23, hR, hj23⟩ := q
  refine GJ.seq (st' := []) rfl ?_
  obtain ⟨hlr23, hlT23, -⟩ := hJ P23 hj23
  refine g_aload_n X dX3_board_26 rfl ?_
  refine gp_geti (j := 2) X hR hlT23 cl_X5 lk_X3_146 rfl (by decide) rfl rfl dX3_board_27 (fun x27 e27 => ?_)
  refine g_iload_n X dX3_board_30 rfl ?_
  refine g_isub X dX3_board_31 (fun x31 e31 => ?_)
  refine g_ireturn X E rfl dX3_board_32 (by decide) (by decide) ?_
  exact ⟨_, rfl, _, hR, hj23, by rw [e31, e27, e1]⟩
theorem i_and0 {a b c : Int32} (h : a &&& b = 0) (h2 : a &&& c = 0) : a &&& (b ||| c) = 0 := by
  apply Int32.toBitVec_inj.mp
  have h' := congrArg Int32.toBitVec h
  have h2' := congrArg Int32.toBitVec h2
  simp only [Int32.toBitVec_and, Int32.toBitVec_or] at h' h2' ⊢
  rw [BitVec.and_or_distrib_left, h', h2']
  rfl
def ctT (RR : Nat → List Nat) (o : Nat) : Nat → Nat
  | 0 => 0
  | k + 1 => ctT RR o k + (RR k).count o
set_option maxHeartbeats 4000000 in
set_option maxRecDepth 100000 in
theorem c_X3_areHoldsSound {Z : gEnv} {ad : gAd} {P : gP} {h : gH} (G : gG Z) (hR : gRep Z ad P h) {r : Nat} (hl : gLive P 3 r 0) (hs : ∀ i, i < pnT P r → ¬ pI P 5 r i 6 &&& (1 <<< (pI P 5 r i 3 &&& 31)) = 0 ∧ ∀ j, j < pnT P r → j ≠ i → pI P 5 r i 6 &&& pI P 5 r j 6 = 0) : gMet Z yX3_areHoldsSound cX3_areHoldsSound 6 ((Option.some FieldType.boolean)) 3 0 0 [.ref (ad 3 r 0)] h (qI h (fun y => y = 1)) (qN) := by
  refine g_enter (lv := [(0, .ref (ad 3 r 0))]) G.2 (by decide +kernel) (Nat.le_of_ble_eq_true rfl) rfl (fun Γ X Nt E RM => ?_)
  have L : ∀ (m : Nat) (k : Nat) (x4 : Int32) (x1 : Int32) (hm : m + k = 4) (hi : x4 = nI k) (hac : ∀ j, k ≤ j → j < pnT P r → pI P 5 r j 6 &&& x1 = 0), GJ Z Γ h 0 0 13 [(4, .int x4), (3, .int 4), (2, .ref (ad 11 r 0)), (1, .int x1), (0, .ref (ad 3 r 0))] [] := by
    intro m
    induction m with
    | zero =>
      intro k x4 x1 hm hi hac
      refine g_iload X dX3_areHoldsSound_13 rfl ?_
      refine g_iload_n X dX3_areHoldsSound_15 rfl ?_
      refine g_icmp_ge 69 X dX3_areHoldsSound_16 (by decide) (fun c16 => ?_) (fun c16 => ?_)
      · skip
        refine g_iconst (v := 1) X dX3_areHoldsSound_69 (by decide) ?_
        refine g_ireturn X E (by decide) dX3_areHoldsSound_70 (by decide) (by decide) ?_
        exact ⟨_, rfl, rfl, rfl⟩
      · skip
        exact absurd c16 (by rw [hi]; exact nI_nlt (b := 4) (by omega) (by omega))
    | succ m ih =>
      intro k x4 x1 hm hi hac
      refine g_iload X dX3_areHoldsSound_13 rfl ?_
      refine g_iload_n X dX3_areHoldsSound_15 rfl ?_
      refine g_icmp_ge 69 X dX3_areHoldsSound_16 (by decide) (fun c16 => ?_) (fun c16 => ?_)
      · skip
        exact absurd (by rw [hi]; exact nI_lt (b := 4) (by omega) (by omega)) c16
      · skip
        refine g_aload_n X dX3_areHoldsSound_19 rfl ?_
        refine g_iload X dX3_areHoldsSound_20 rfl ?_
        refine gp_aald_if (j := k) X hR hl G.t4 rfl hi (by omega) (by decide) dX3_areHoldsSound_22 (fun h22 => ?_) (fun h22 => ?_)
        · skip
          have hl22 : gLive P 5 r k := ⟨(hl).1, h22⟩
          refine g_astore (lv' := [(5, .ref (ad 5 r k)), (4, .int x4), (3, .int 4), (2, .ref (ad 11 r 0)), (1, .int x1), (0, .ref (ad 3 r 0))]) X dX3_areHoldsSound_23 (by decide) rfl ?_
          refine g_aload X dX3_areHoldsSound_25 rfl ?_
          refine g_ifnull X dX3_areHoldsSound_27 ?_
          refine g_aload X dX3_areHoldsSound_30 rfl ?_
          refine g_aload X dX3_areHoldsSound_32 rfl ?_
          refine gp_geti (j := 3) X hR hl22 cl_X5 lk_X3_56 rfl (by decide) rfl rfl dX3_areHoldsSound_34 (fun x34 e34 => ?_)
          refine gp_V X RM lm_X3_71 (c_X5_holds G hR hl22) cl_X5 hR hl22 rfl rfl rfl (Nat.le_of_ble_eq_true rfl) (by decide) (by decide) dX3_areHoldsSound_37 (fun v hz q => ?_) (fun _ _ q => q.elim)
          obtain ⟨x37, rfl, e37, rfl⟩ := q
          refine GJ.seq (st' := [.int x37]) rfl ?_
          refine g_if_eq 53 X dX3_areHoldsSound_40 (by decide) (fun c40 => ?_) (fun c40 => ?_)
          · skip
            exact absurd (e37.trans (if_neg (by rw [e34]; exact (hs k h22).1))) (by rw [c40]; decide)
          · skip
            refine g_aload X dX3_areHoldsSound_43 rfl ?_
            refine gp_geti (j := 6) X hR hl22 cl_X5 lk_X3_132 rfl (by decide) rfl rfl dX3_areHoldsSound_45 (fun x45 e45 => ?_)
            refine g_iload_n X dX3_areHoldsSound_48 rfl ?_
            refine g_iand X dX3_areHoldsSound_49 (fun x49 e49 => ?_)
            refine g_if_eq 55 X dX3_areHoldsSound_50 (by decide) (fun c50 => ?_) (fun c50 => ?_)
            · skip
              refine g_iload_n X dX3_areHoldsSound_55 rfl ?_
              refine g_aload X dX3_areHoldsSound_56 rfl ?_
              refine gp_geti (j := 6) X hR hl22 cl_X5 lk_X3_132 rfl (by decide) rfl rfl dX3_areHoldsSound_58 (fun x58 e58 => ?_)
              refine g_ior X dX3_areHoldsSound_61 (fun x61 e61 => ?_)
              refine g_istore_n (lv' := [(1, .int x61), (5, .ref (ad 5 r k)), (4, .int x4), (3, .int 4), (2, .ref (ad 11 r 0)), (0, .ref (ad 3 r 0))]) X dX3_areHoldsSound_62 (by decide) rfl ?_
              refine gp_iinc 2 X dX3_areHoldsSound_63 rfl (by decide) (fun x63 e63 => ?_)
              refine GJ.leq (lv' := [(4, .int x63), (1, .int x61), (5, .ref (ad 5 r k)), (3, .int 4), (2, .ref (ad 11 r 0)), (0, .ref (ad 3 r 0))]) rfl ?_
              refine g_goto 13 X dX3_areHoldsSound_66 (by decide) ?_
              refine GJ.pick [0, 3, 4, 1, 5] rfl ?_
              exact ih (k + 1) x63 x61 (by omega) (by rw [e63, hi]; exact nI_1 k) (fun j hj hjn => (by rw [e61]; exact i_and0 (hac j (by omega) hjn) (by rw [e58]; exact (hs j hjn).2 k h22 (by omega))))
            · skip
              exact absurd ((e49.trans (by rw [e45, Int32.and_comm, Int32.and_comm]; exact hac k (Nat.le_refl k) h22)) : x49 = 0) c50
        · skip
          refine g_astoreN (lv' := [(5, .null), (4, .int x4), (3, .int 4), (2, .ref (ad 11 r 0)), (1, .int x1), (0, .ref (ad 3 r 0))]) X dX3_areHoldsSound_23 (by decide) rfl ?_
          refine g_aloadN X dX3_areHoldsSound_25 rfl ?_
          refine g_ifnullN 63 X dX3_areHoldsSound_27 (by decide) ?_
          refine gp_iinc 1 X dX3_areHoldsSound_63 rfl (by decide) (fun x63 e63 => ?_)
          refine GJ.leq (lv' := [(4, .int x63), (5, .null), (3, .int 4), (2, .ref (ad 11 r 0)), (1, .int x1), (0, .ref (ad 3 r 0))]) rfl ?_
          refine g_goto 13 X dX3_areHoldsSound_66 (by decide) ?_
          refine GJ.pick [0, 2, 3, 4, 5] rfl ?_
          exact ih (k + 1) x63 x1 (by omega) (by rw [e63, hi]; exact nI_1 k) (fun j hj hjn => hac j (by omega) hjn)
  refine g_iconst (v := 0) X dX3_areHoldsSound_0 (by decide) ?_
  refine g_istore_n (lv' := [(1, .int 0), (0, .ref (ad 3 r 0))]) X dX3_areHoldsSound_1 (by decide) rfl ?_
  refine g_aload_n X dX3_areHoldsSound_2 rfl ?_
  refine gp_get (j := 4) (v := .ref (ad 11 r 0)) X hR hl cl_X3 lk_X3_20 rfl (by decide) rfl rfl dX3_areHoldsSound_3 ?_
  refine g_astore_n (lv' := [(2, .ref (ad 11 r 0)), (1, .int 0), (0, .ref (ad 3 r 0))]) X dX3_areHoldsSound_6 (by decide) rfl ?_
  refine g_aload_n X dX3_areHoldsSound_7 rfl ?_
  refine gp_alen (v := 4) X hR hl G.t4 rfl rfl dX3_areHoldsSound_8 ?_
  refine g_istore_n (lv' := [(3, .int 4), (2, .ref (ad 11 r 0)), (1, .int 0), (0, .ref (ad 3 r 0))]) X dX3_areHoldsSound_9 (by decide) rfl ?_
  refine g_iconst (v := 0) X dX3_areHoldsSound_10 (by decide) ?_
  refine g_istore (lv' := [(4, .int 0), (3, .int 4), (2, .ref (ad 11 r 0)), (1, .int 0), (0, .ref (ad 3 r 0))]) X dX3_areHoldsSound_11 (by decide) rfl ?_
  exact L 4 0 0 0 rfl rfl (fun j _ _ => by simp)
set_option maxHeartbeats 4000000 in
set_option maxRecDepth 100000 in
theorem c_X3_countInLines {Z : gEnv} {ad : gAd} {P : gP} {h : gH} (G : gG Z) (hR : gRep Z ad P h) {r : Nat} (hl : gLive P 3 r 0) {l0 l1 l2 : List Nat} (hL0 : Ln P r 0 l0) (hL1 : Ln P r 1 l1) (hL2 : Ln P r 2 l2) {o : Nat} (ho : gLive P 1 o 0) : gMet Z yX3_countInLines cX3_countInLines 2 ((Option.some FieldType.int)) 3 0 0 [.ref (ad 3 r 0), .ref (ad 1 o 0)] h (qI h (fun x => x = nI (l0.count o + l1.count o + l2.count o))) (qN) := by
  refine g_enter (lv := [(0, .ref (ad 3 r 0)), (1, .ref (ad 1 o 0))]) G.2 (by decide +kernel) (Nat.le_of_ble_eq_true rfl) rfl (fun Γ X Nt E RM => ?_)
  refine g_aload_n X dX3_countInLines_0 rfl ?_
  refine gp_get (j := 6) (v := .ref (ad 2 r 0)) X hR hl cl_X3 lk_X3_27 rfl (by decide) rfl rfl dX3_countInLines_1 ?_
  refine g_aload_n X dX3_countInLines_4 rfl ?_
  refine gp_V X RM lm_X3_186 (c_X2_countOf G hR (⟨hl.1, by decide⟩) hL0 ho) cl_X2 hR (⟨hl.1, by decide⟩) rfl rfl rfl (Nat.le_of_ble_eq_true rfl) (by decide) (by decide) dX3_countInLines_5 (fun v hz q => ?_) (fun _ _ q => q.elim)
  obtain ⟨x5, rfl, e5, rfl⟩ := q
  refine GJ.seq (st' := [.int x5]) rfl ?_
  refine g_aload_n X dX3_countInLines_8 rfl ?_
  refine gp_get (j := 7) (v := .ref (ad 2 r 1)) X hR hl cl_X3 lk_X3_31 rfl (by decide) rfl rfl dX3_countInLines_9 ?_
  refine g_aload_n X dX3_countInLines_12 rfl ?_
  refine gp_V X RM lm_X3_186 (c_X2_countOf G hR (⟨hl.1, by decide⟩) hL1 ho) cl_X2 hR (⟨hl.1, by decide⟩) rfl rfl rfl (Nat.le_of_ble_eq_true rfl) (by decide) (by decide) dX3_countInLines_13 (fun v hz q => ?_) (fun _ _ q => q.elim)
  obtain ⟨x13, rfl, e13, rfl⟩ := q
  refine GJ.seq (st' := [.int x13, .int x5]) rfl ?_
  refine g_iadd X dX3_countInLines_16 (fun x16 e16 => ?_)
  refine g_aload_n X dX3_countInLines_17 rfl ?_
  refine gp_get (j := 8) (v := .ref (ad 2 r 2)) X hR hl cl_X3 lk_X3_34 rfl (by decide) rfl rfl dX3_countInLines_18 ?_
  refine g_aload_n X dX3_countInLines_21 rfl ?_
  refine gp_V X RM lm_X3_186 (c_X2_countOf G hR (⟨hl.1, by decide⟩) hL2 ho) cl_X2 hR (⟨hl.1, by decide⟩) rfl rfl rfl (Nat.le_of_ble_eq_true rfl) (by decide) (by decide) dX3_countInLines_22 (fun v hz q => ?_) (fun _ _ q => q.elim)
  obtain ⟨x22, rfl, e22, rfl⟩ := q
  refine GJ.seq (st' := [.int x22, .int x16]) rfl ?_
  refine g_iadd X dX3_countInLines_25 (fun x25 e25 => ?_)
  refine g_ireturn X E rfl dX3_countInLines_26 (by decide) (by decide) ?_
  exact ⟨_, rfl, by rw [e25, e16, e5, e13, e22, nI_add, nI_add], rfl⟩
set_option maxHeartbeats 4000000 in
set_option maxRecDepth 100000 in
theorem c_X3_countInTrains {Z : gEnv} {ad : gAd} {P : gP} {h : gH} (G : gG Z) (hR : gRep Z ad P h) {r : Nat} (hl : gLive P 3 r 0) {RR : Nat → List Nat} (hT : ∀ i, i < pnT P r → Tr P r i (RR i)) (hN : ∀ i, ¬ i < pnT P r → RR i = []) {o : Nat} (ho : gLive P 1 o 0) : gMet Z yX3_countInTrains cX3_countInTrains 7 ((Option.some FieldType.int)) 3 0 0 [.ref (ad 3 r 0), .ref (ad 1 o 0)] h (qI h (fun x => x = nI (ctT RR o 4))) (qN) := by
  refine g_enter (lv := [(0, .ref (ad 3 r 0)), (1, .ref (ad 1 o 0))]) G.2 (by decide +kernel) (Nat.le_of_ble_eq_true rfl) rfl (fun Γ X Nt E RM => ?_)
  have L : ∀ (m : Nat) (k : Nat) (x2 x5 : Int32) (hm : m + k = 4) (hi : x5 = nI k) (h2 : x2 = nI (ctT RR o k)), GJ Z Γ h 0 0 14 [(5, .int x5), (4, .int 4), (3, .ref (ad 11 r 0)), (2, .int x2), (1, .ref (ad 1 o 0)), (0, .ref (ad 3 r 0))] [] := by
    intro m
    induction m with
    | zero =>
      intro k x2 x5 hm hi h2
      refine g_iload X dX3_countInTrains_14 rfl ?_
      refine g_iload X dX3_countInTrains_16 rfl ?_
      refine g_icmp_ge 47 X dX3_countInTrains_18 (by decide) (fun c18 => ?_) (fun c18 => ?_)
      · skip
        refine g_iload_n X dX3_countInTrains_47 rfl ?_
        refine g_ireturn X E rfl dX3_countInTrains_48 (by decide) (by decide) ?_
        have hk4 : k = 4 := by omega
        subst hk4
        exact ⟨_, rfl, h2, rfl⟩
      · skip
        exact absurd c18 (by rw [hi]; exact nI_nlt (b := 4) (by omega) (by omega))
    | succ m ih =>
      intro k x2 x5 hm hi h2
      refine g_iload X dX3_countInTrains_14 rfl ?_
      refine g_iload X dX3_countInTrains_16 rfl ?_
      refine g_icmp_ge 47 X dX3_countInTrains_18 (by decide) (fun c18 => ?_) (fun c18 => ?_)
      · skip
        exact absurd (by rw [hi]; exact nI_lt (b := 4) (by omega) (by omega)) c18
      · skip
        refine g_aload_n X dX3_countInTrains_21 rfl ?_
        refine g_iload X dX3_countInTrains_22 rfl ?_
        refine gp_aald_if (j := k) X hR hl G.t4 rfl hi (by omega) (by decide) dX3_countInTrains_24 (fun h24 => ?_) (fun h24 => ?_)
        · skip
          have hl24 : gLive P 5 r k := ⟨(hl).1, h24⟩
          refine g_astore (lv' := [(6, .ref (ad 5 r k)), (5, .int x5), (4, .int 4), (3, .ref (ad 11 r 0)), (2, .int x2), (1, .ref (ad 1 o 0)), (0, .ref (ad 3 r 0))]) X dX3_countInTrains_25 (by decide) rfl ?_
          refine g_aload X dX3_countInTrains_27 rfl ?_
          refine g_ifnull X dX3_countInTrains_29 ?_
          refine g_iload_n X dX3_countInTrains_32 rfl ?_
          refine g_aload X dX3_countInTrains_33 rfl ?_
          refine g_aload_n X dX3_countInTrains_35 rfl ?_
          refine gp_V X RM lm_X3_189 (c_X5_countOf G hR hl24 (hT k h24) ho) cl_X5 hR hl24 rfl rfl rfl (Nat.le_of_ble_eq_true rfl) (by decide) (by decide) dX3_countInTrains_36 (fun v hz q => ?_) (fun _ _ q => q.elim)
          obtain ⟨x36, rfl, e36, rfl⟩ := q
          refine GJ.seq (st' := [.int x36, .int x2]) rfl ?_
          refine g_iadd X dX3_countInTrains_39 (fun x39 e39 => ?_)
          refine g_istore_n (lv' := [(2, .int x39), (6, .ref (ad 5 r k)), (5, .int x5), (4, .int 4), (3, .ref (ad 11 r 0)), (1, .ref (ad 1 o 0)), (0, .ref (ad 3 r 0))]) X dX3_countInTrains_40 (by decide) rfl ?_
          refine gp_iinc 2 X dX3_countInTrains_41 rfl (by decide) (fun x41 e41 => ?_)
          refine GJ.leq (lv' := [(5, .int x41), (2, .int x39), (6, .ref (ad 5 r k)), (4, .int 4), (3, .ref (ad 11 r 0)), (1, .ref (ad 1 o 0)), (0, .ref (ad 3 r 0))]) rfl ?_
          refine g_goto 14 X dX3_countInTrains_44 (by decide) ?_
          refine GJ.pick [0, 3, 4, 1, 5, 6] rfl ?_
          exact ih (k + 1) x39 x41 (by omega) (by rw [e41, hi]; exact nI_1 k) (by rw [ctT]; rw [e39, h2, e36, nI_add])
        · skip
          refine g_astoreN (lv' := [(6, .null), (5, .int x5), (4, .int 4), (3, .ref (ad 11 r 0)), (2, .int x2), (1, .ref (ad 1 o 0)), (0, .ref (ad 3 r 0))]) X dX3_countInTrains_25 (by decide) rfl ?_
          refine g_aloadN X dX3_countInTrains_27 rfl ?_
          refine g_ifnullN 41 X dX3_countInTrains_29 (by decide) ?_
          refine gp_iinc 1 X dX3_countInTrains_41 rfl (by decide) (fun x41 e41 => ?_)
          refine GJ.leq (lv' := [(5, .int x41), (6, .null), (4, .int 4), (3, .ref (ad 11 r 0)), (2, .int x2), (1, .ref (ad 1 o 0)), (0, .ref (ad 3 r 0))]) rfl ?_
          refine g_goto 14 X dX3_countInTrains_44 (by decide) ?_
          refine GJ.pick [0, 2, 3, 4, 5, 6] rfl ?_
          exact ih (k + 1) x2 x41 (by omega) (by rw [e41, hi]; exact nI_1 k) (by rw [ctT]; rw [hN k h24]; exact h2)
  refine g_iconst (v := 0) X dX3_countInTrains_0 (by decide) ?_
  refine g_istore_n (lv' := [(2, .int 0), (0, .ref (ad 3 r 0)), (1, .ref (ad 1 o 0))]) X dX3_countInTrains_1 (by decide) rfl ?_
  refine g_aload_n X dX3_countInTrains_2 rfl ?_
  refine gp_get (j := 4) (v := .ref (ad 11 r 0)) X hR hl cl_X3 lk_X3_20 rfl (by decide) rfl rfl dX3_countInTrains_3 ?_
  refine g_astore_n (lv' := [(3, .ref (ad 11 r 0)), (2, .int 0), (0, .ref (ad 3 r 0)), (1, .ref (ad 1 o 0))]) X dX3_countInTrains_6 (by decide) rfl ?_
  refine g_aload_n X dX3_countInTrains_7 rfl ?_
  refine gp_alen (v := 4) X hR hl G.t4 rfl rfl dX3_countInTrains_8 ?_
  refine g_istore (lv' := [(4, .int 4), (3, .ref (ad 11 r 0)), (2, .int 0), (0, .ref (ad 3 r 0)), (1, .ref (ad 1 o 0))]) X dX3_countInTrains_9 (by decide) rfl ?_
  refine g_iconst (v := 0) X dX3_countInTrains_11 (by decide) ?_
  refine g_istore (lv' := [(5, .int 0), (4, .int 4), (3, .ref (ad 11 r 0)), (2, .int 0), (0, .ref (ad 3 r 0)), (1, .ref (ad 1 o 0))]) X dX3_countInTrains_12 (by decide) rfl ?_
  refine GJ.pick [0, 1, 2, 3, 5, 4] rfl ?_
  exact L 4 0 0 0 rfl rfl rfl
end GRIDE3
