/-! the park: ticks, by any property that the steps keep -/
section GTICK
/-- what a tick's steps keep: J t speaks of a park at tick t -/
def tkJ (J : Int32 → gP → Prop) : Prop := (∀ t P, J t P → Wf P ∧ pI P 6 0 0 7 = t) ∧ (∀ t P, J t P → J (t + 1) (uI P 6 0 0 7 (t + 1))) ∧
  (∀ t P P2 r i b l, J t P → r < pnR P → i < pnT P r → pI P 5 r i 3 = nI b → b < pnB P r → pI P 5 r i 5 = 109 → Tr P r i l → mvRel P P2 r i b l → J t P2) ∧
  (∀ t P r i b w, J t P → r < pnR P → i < pnT P r → pI P 5 r i 3 = nI b → b < pnB P r → pI P 5 r i 5 = 115 → fKS P r i b w = 46 → J t (fGo P r i (fPath P r (pnB P r) b 0))) ∧
  (∀ t P r, J t P → r < pnR P → J t (uI P 3 r 0 14 1)) ∧ ∀ t P g, J t P → g < pnG P → 0 < pI P 1 g 0 4 → J t (uI P 1 g 0 4 (pI P 1 g 0 4 - 1))
set_option maxHeartbeats 4000000 in
set_option maxRecDepth 100000 in
theorem c_X6_letGuestsRecover {Z : gEnv} {ad : gAd} {P : gP} {h : gH} (G : gG Z) (hR : gRep Z ad P h) {J : Int32 → gP → Prop} (JJ : tkJ J) {t : Int32} (hj : J t P) : gMet Z yX6_letGuestsRecover cX6_letGuestsRecover 5 ((Option.none : Option FieldType)) 1 0 0 [.ref (ad 6 0 0)] h (qM (fun h2 => ∃ P2, gRep Z ad P2 h2 ∧ J t P2)) (qN) := by
  refine g_enter (lv := [(0, .ref (ad 6 0 0))]) G.2 (by decide +kernel) (Nat.le_of_ble_eq_true rfl) rfl (fun Γ X Nt E RM => ?_)
  have L : ∀ (m : Nat) (k : Nat) (x3 : Int32) (P1 : gP) (h : gH) (hR : gRep Z ad P1 h) (hj : J t P1) (hm : m + k = 60) (hi : x3 = nI k), GJ Z Γ h 0 0 10 [(3, .int x3), (2, .int 60), (1, .ref (ad 9 0 0)), (0, .ref (ad 6 0 0))] [] := by
    intro m
    induction m with
    | zero =>
      intro k x3 P1 h hR hj hm hi
      refine g_iload_n X dX6_letGuestsRecover_10 rfl ?_
      refine g_iload_n X dX6_letGuestsRecover_11 rfl ?_
      refine g_icmp_ge 60 X dX6_letGuestsRecover_12 (by decide) (fun c12 => ?_) (fun c12 => ?_)
      · skip
        refine g_return X E dX6_letGuestsRecover_60 (by decide) (by decide) ?_
        exact ⟨rfl, _, hR, hj⟩
      · skip
        exact absurd c12 (by rw [hi]; exact nI_nlt (b := 60) (by omega) (by omega))
    | succ m ih =>
      intro k x3 P1 h hR hj hm hi
      refine g_iload_n X dX6_letGuestsRecover_10 rfl ?_
      refine g_iload_n X dX6_letGuestsRecover_11 rfl ?_
      refine g_icmp_ge 60 X dX6_letGuestsRecover_12 (by decide) (fun c12 => ?_) (fun c12 => ?_)
      · skip
        exact absurd (by rw [hi]; exact nI_lt (b := 60) (by omega) (by omega)) c12
      · skip
        refine g_aload_n X dX6_letGuestsRecover_15 rfl ?_
        refine g_iload_n X dX6_letGuestsRecover_16 rfl ?_
        refine gp_aald_if (j := k) X hR (⟨rfl, rfl⟩) G.t2 rfl hi (by omega) (by decide) dX6_letGuestsRecover_17 (fun h17 => ?_) (fun h17 => ?_)
        · skip
          have hl17 : gLive P1 1 k 0 := ⟨h17, rfl⟩
          refine g_astore (lv' := [(4, .ref (ad 1 k 0)), (3, .int x3), (2, .int 60), (1, .ref (ad 9 0 0)), (0, .ref (ad 6 0 0))]) X dX6_letGuestsRecover_18 (by decide) rfl ?_
          refine g_aload X dX6_letGuestsRecover_20 rfl ?_
          refine g_ifnull X dX6_letGuestsRecover_22 ?_
          refine g_aload X dX6_letGuestsRecover_25 rfl ?_
          refine gp_geti (j := 6) X hR hl17 cl_X1 lk_X6_276 rfl (by decide) rfl rfl dX6_letGuestsRecover_27 (fun x27 e27 => ?_)
          refine g_bipush (v := 112) X dX6_letGuestsRecover_30 (by decide) ?_
          refine g_icmp_ne 54 X dX6_letGuestsRecover_32 (by decide) (fun c32 => ?_) (fun c32 => ?_)
          · skip
            refine gp_iinc 1 X dX6_letGuestsRecover_54 rfl (by decide) (fun x54 e54 => ?_)
            refine GJ.leq (lv' := [(3, .int x54), (4, .ref (ad 1 k 0)), (2, .int 60), (1, .ref (ad 9 0 0)), (0, .ref (ad 6 0 0))]) rfl ?_
            refine g_goto 10 X dX6_letGuestsRecover_57 (by decide) ?_
            refine GJ.pick [0, 2, 3, 4] rfl ?_
            exact ih (k + 1) x54 P1 _ hR hj (by omega) (by rw [e54, hi]; exact nI_1 k)
          · skip
            refine g_aload X dX6_letGuestsRecover_35 rfl ?_
            refine gp_geti (j := 4) X hR hl17 cl_X1 lk_X6_361 rfl (by decide) rfl rfl dX6_letGuestsRecover_37 (fun x37 e37 => ?_)
            refine g_if_le 54 X dX6_letGuestsRecover_40 (by decide) (fun c40 => ?_) (fun c40 => ?_)
            · skip
              refine gp_iinc 1 X dX6_letGuestsRecover_54 rfl (by decide) (fun x54 e54 => ?_)
              refine GJ.leq (lv' := [(3, .int x54), (4, .ref (ad 1 k 0)), (2, .int 60), (1, .ref (ad 9 0 0)), (0, .ref (ad 6 0 0))]) rfl ?_
              refine g_goto 10 X dX6_letGuestsRecover_57 (by decide) ?_
              refine GJ.pick [0, 2, 3, 4] rfl ?_
              exact ih (k + 1) x54 P1 _ hR hj (by omega) (by rw [e54, hi]; exact nI_1 k)
            · skip
              refine g_aload X dX6_letGuestsRecover_43 rfl ?_
              refine g_dup X dX6_letGuestsRecover_45 rfl ?_
              refine gp_geti (j := 4) X hR hl17 cl_X1 lk_X6_361 rfl (by decide) rfl rfl dX6_letGuestsRecover_46 (fun x46 e46 => ?_)
              refine g_iconst (v := 1) X dX6_letGuestsRecover_49 (by decide) ?_
              refine g_isub X dX6_letGuestsRecover_50 (fun x50 e50 => ?_)
              refine gp_puti (j := 4) X hR hl17 cl_X1 lk_X6_361 rfl (by decide) rfl (by decide) rfl rfl rfl dX6_letGuestsRecover_51 (fun h hR => ?_)
              refine gp_iinc 1 X dX6_letGuestsRecover_54 rfl (by decide) (fun x54 e54 => ?_)
              refine GJ.leq (lv' := [(3, .int x54), (4, .ref (ad 1 k 0)), (2, .int 60), (1, .ref (ad 9 0 0)), (0, .ref (ad 6 0 0))]) rfl ?_
              refine g_goto 10 X dX6_letGuestsRecover_57 (by decide) ?_
              refine GJ.pick [0, 2, 3, 4] rfl ?_
              exact ih (k + 1) x54 (uI P1 1 k 0 4 x50) _ hR (by rw [e50, e46]; exact JJ.2.2.2.2.2 t P1 k hj h17 (by rw [← e37]; exact c40)) (by omega) (by rw [e54, hi]; exact nI_1 k)
        · skip
          refine g_astoreN (lv' := [(4, .null), (3, .int x3), (2, .int 60), (1, .ref (ad 9 0 0)), (0, .ref (ad 6 0 0))]) X dX6_letGuestsRecover_18 (by decide) rfl ?_
          refine g_aloadN X dX6_letGuestsRecover_20 rfl ?_
          refine g_ifnullN 54 X dX6_letGuestsRecover_22 (by decide) ?_
          refine gp_iinc 1 X dX6_letGuestsRecover_54 rfl (by decide) (fun x54 e54 => ?_)
          refine GJ.leq (lv' := [(3, .int x54), (4, .null), (2, .int 60), (1, .ref (ad 9 0 0)), (0, .ref (ad 6 0 0))]) rfl ?_
          refine g_goto 10 X dX6_letGuestsRecover_57 (by decide) ?_
          refine GJ.pick [0, 2, 3, 4] rfl ?_
          exact ih (k + 1) x54 P1 _ hR hj (by omega) (by rw [e54, hi]; exact nI_1 k)
  refine g_aload_n X dX6_letGuestsRecover_0 rfl ?_
  refine gp_get (j := 4) (v := .ref (ad 9 0 0)) X hR (⟨rfl, rfl⟩) cl_X6 lk_X6_21 rfl (by decide) rfl rfl dX6_letGuestsRecover_1 ?_
  refine g_astore_n (lv' := [(1, .ref (ad 9 0 0)), (0, .ref (ad 6 0 0))]) X dX6_letGuestsRecover_4 (by decide) rfl ?_
  refine g_aload_n X dX6_letGuestsRecover_5 rfl ?_
  refine gp_alen (v := 60) X hR (⟨rfl, rfl⟩) G.t2 rfl rfl dX6_letGuestsRecover_6 ?_
  refine g_istore_n (lv' := [(2, .int 60), (1, .ref (ad 9 0 0)), (0, .ref (ad 6 0 0))]) X dX6_letGuestsRecover_7 (by decide) rfl ?_
  refine g_iconst (v := 0) X dX6_letGuestsRecover_8 (by decide) ?_
  refine g_istore_n (lv' := [(3, .int 0), (2, .int 60), (1, .ref (ad 9 0 0)), (0, .ref (ad 6 0 0))]) X dX6_letGuestsRecover_9 (by decide) rfl ?_
  exact L 60 0 0 P h hR hj rfl rfl
theorem nI_1s (t : Int32) (k : Nat) : t + nI (k + 1) = t + nI k + 1 := by rw [← nI_1, Int32.add_assoc]
set_option maxHeartbeats 4000000 in
set_option maxRecDepth 100000 in
theorem c_X6_tick {Z : gEnv} {ad : gAd} {P : gP} {h : gH} (G : gG Z) (hR : gRep Z ad P h) {J : Int32 → gP → Prop} (JJ : tkJ J) {t : Int32} {nn : Nat} (hnn : 1 ≤ nn ∧ nn ≤ 60) {x1 : Int32} (h1 : x1 = nI nn) (hj : J t P) : gMet Z yX6_tick cX6_tick 7 ((Option.some FieldType.int)) 8 0 0 [.ref (ad 6 0 0), .int x1] h (qIM (fun z h2 => ∃ P2, gRep Z ad P2 h2 ∧ z = t + nI nn ∧ J (t + nI nn) P2)) (qN) := by
  refine g_enter (lv := [(0, .ref (ad 6 0 0)), (1, .int x1)]) G.2 (by decide +kernel) (Nat.le_of_ble_eq_true rfl) rfl (fun Γ X Nt E RM => ?_)
  have LI : ∀ (m : Nat) (k : Nat) (x5 x2 x1 : Int32) (t : Int32) (P1 : gP) (h : gH) (hR : gRep Z ad P1 h) (hj : J t P1) (hm : m + k = 4) (hi : x5 = nI k) (hK : ∀ (P1 : gP) (h : gH), gRep Z ad P1 h → J t P1 → GJ Z Γ h 0 0 87 [(2, .int x2), (1, .int x1), (0, .ref (ad 6 0 0))] []), GJ Z Γ h 0 0 49 [(5, .int x5), (4, .int 4), (3, .ref (ad 7 0 0)), (2, .int x2), (1, .int x1), (0, .ref (ad 6 0 0))] [] := by
    intro m
    induction m with
    | zero =>
      intro k x5 x2 x1 t P1 h hR hj hm hi hK
      refine g_iload X dX6_tick_49 rfl ?_
      refine g_iload X dX6_tick_51 rfl ?_
      refine g_icmp_ge 87 X dX6_tick_53 (by decide) (fun c53 => ?_) (fun c53 => ?_)
      · skip
        refine GJ.pick [3, 4, 5] rfl ?_
        exact hK P1 h hR hj
      · skip
        exact absurd c53 (by rw [hi]; exact nI_nlt (b := 4) (by omega) (by omega))
    | succ m ih =>
      intro k x5 x2 x1 t P1 h hR hj hm hi hK
      refine g_iload X dX6_tick_49 rfl ?_
      refine g_iload X dX6_tick_51 rfl ?_
      refine g_icmp_ge 87 X dX6_tick_53 (by decide) (fun c53 => ?_) (fun c53 => ?_)
      · skip
        exact absurd (by rw [hi]; exact nI_lt (b := 4) (by omega) (by omega)) c53
      · skip
        refine g_aload_n X dX6_tick_56 rfl ?_
        refine g_iload X dX6_tick_57 rfl ?_
        refine gp_aald_if (j := k) X hR (⟨rfl, rfl⟩) G.t0 rfl hi (by omega) (by decide) dX6_tick_59 (fun h59 => ?_) (fun h59 => ?_)
        · skip
          have hl59 : gLive P1 3 k 0 := ⟨h59, rfl⟩
          refine g_astore (lv' := [(6, .ref (ad 3 k 0)), (5, .int x5), (4, .int 4), (3, .ref (ad 7 0 0)), (2, .int x2), (1, .int x1), (0, .ref (ad 6 0 0))]) X dX6_tick_60 (by decide) rfl ?_
          refine g_aload X dX6_tick_62 rfl ?_
          refine g_ifnull X dX6_tick_64 ?_
          refine g_aload X dX6_tick_67 rfl ?_
          refine g_aload_n X dX6_tick_69 rfl ?_
          refine gp_geti (j := 6) X hR (⟨rfl, rfl⟩) cl_X6 lk_X6_199 rfl (by decide) rfl rfl dX6_tick_70 (fun x70 e70 => ?_)
          refine gp_V X RM lm_X6_254 (c_X3_moveTrains G hR (r := k) (N := pnB P1 k) (fun Q => J t Q ∧ pnR Q = pnR P1 ∧ pnB Q k = pnB P1 k) (fun Q hq9 => mt_pre (fun Q hh => (JJ.1 t Q hh).1) ⟨hq9.1, hq9.2.1, hq9.2.2⟩ h59) (fun Q Q2 i b l hq9 h1 h2 h3 h4 h5 h6 => ⟨JJ.2.2.1 t Q Q2 k i b l hq9.1 (by rw [hq9.2.1]; exact h59) h1 h2 h3 h4 h5 h6, (nR_2 (mv_2 h6)).trans hq9.2.1, (nB_2 (mv_2 h6) k).trans hq9.2.2⟩) (fun Q i b hq9 h1 h2 h3 h4 h5 => ⟨JJ.2.2.2.1 t Q k i b _ hq9.1 (by rw [hq9.2.1]; exact h59) h1 h2 h3 h4 h5, (congrArg (fun x => x.2.2.2.2.1) fGo_2).trans hq9.2.1, (congrArg (fun x => x.2.2.2.2.2.2.1 k) fGo_2).trans hq9.2.2⟩) ⟨hj, rfl, rfl⟩) cl_X3 hR hl59 rfl rfl rfl (Nat.le_of_ble_eq_true rfl) (by decide) (by decide) dX6_tick_73 (fun v hz q => ?_) (fun _ _ q => q.elim)
          obtain ⟨rfl, P73, hR, hj73, hn73, hb73⟩ := q
          refine GJ.seq (st' := []) rfl ?_
          have hr73 : k < pnR P73 := by rw [hn73]; exact h59
          have hl73 : gLive P73 3 k 0 := ⟨hr73, rfl⟩
          have hW73 := (JJ.1 t P73 hj73).1
          refine g_aload X dX6_tick_76 rfl ?_
          refine gp_V X RM lm_X6_119 (c_X3_compareProcessors G hR hl73 (hW73.nB hr73) (hW73.chr hr73)) cl_X3 hR hl73 rfl rfl rfl (Nat.le_of_ble_eq_true rfl) (by decide) (by decide) dX6_tick_78 (fun v hz q => ?_) (fun _ _ q => q.elim)
          obtain ⟨rfl, P78, hR, e78⟩ := q
          refine GJ.seq (st' := []) rfl ?_
          refine gp_iinc 1 X dX6_tick_81 rfl (by decide) (fun x81 e81 => ?_)
          refine GJ.leq (lv' := [(5, .int x81), (6, .ref (ad 3 k 0)), (4, .int 4), (3, .ref (ad 7 0 0)), (2, .int x2), (1, .int x1), (0, .ref (ad 6 0 0))]) rfl ?_
          refine g_goto 49 X dX6_tick_84 (by decide) ?_
          refine GJ.pick [0, 2, 3, 4, 5, 6] rfl ?_
          exact ih (k + 1) x81 x2 x1 t P78 _ hR (by rcases e78 with e | e <;> (rw [e]; first | exact hj73 | exact JJ.2.2.2.2.1 t P73 k hj73 hr73)) (by omega) (by rw [e81, hi]; exact nI_1 k) hK
        · skip
          refine g_astoreN (lv' := [(6, .null), (5, .int x5), (4, .int 4), (3, .ref (ad 7 0 0)), (2, .int x2), (1, .int x1), (0, .ref (ad 6 0 0))]) X dX6_tick_60 (by decide) rfl ?_
          refine g_aloadN X dX6_tick_62 rfl ?_
          refine g_ifnullN 81 X dX6_tick_64 (by decide) ?_
          refine gp_iinc 1 X dX6_tick_81 rfl (by decide) (fun x81 e81 => ?_)
          refine GJ.leq (lv' := [(5, .int x81), (6, .null), (4, .int 4), (3, .ref (ad 7 0 0)), (2, .int x2), (1, .int x1), (0, .ref (ad 6 0 0))]) rfl ?_
          refine g_goto 49 X dX6_tick_84 (by decide) ?_
          refine GJ.pick [0, 2, 3, 4, 5, 6] rfl ?_
          exact ih (k + 1) x81 x2 x1 t P1 _ hR hj (by omega) (by rw [e81, hi]; exact nI_1 k) hK
  have L : ∀ (m : Nat) (k : Nat) (x2 x1 : Int32) (P1 : gP) (h : gH) (hR : gRep Z ad P1 h) (hj : J (t + nI k) P1) (hm : m + k = nn) (h2 : x2 = nI k) (h1 : x1 = nI nn), GJ Z Γ h 0 0 22 [(2, .int x2), (1, .int x1), (0, .ref (ad 6 0 0))] [] := by
    intro m
    induction m with
    | zero =>
      intro k x2 x1 P1 h hR hj hm h2 h1
      refine g_iload_n X dX6_tick_22 rfl ?_
      refine g_iload_n X dX6_tick_23 rfl ?_
      refine g_icmp_ge 107 X dX6_tick_24 (by decide) (fun c24 => ?_) (fun c24 => ?_)
      · skip
        refine g_aload_n X dX6_tick_107 rfl ?_
        refine gp_geti (j := 7) X hR (⟨rfl, rfl⟩) cl_X6 lk_X6_207 rfl (by decide) rfl rfl dX6_tick_108 (fun x108 e108 => ?_)
        refine g_ireturn X E rfl dX6_tick_111 (by decide) (by decide) ?_
        have hkn : k = nn := by omega
        subst hkn
        exact ⟨_, rfl, P1, hR, by rw [e108, (JJ.1 _ _ hj).2], hj⟩
      · skip
        exact absurd c24 (by rw [h2, h1, ← hm, Nat.zero_add]; exact nI_nlt (Nat.le_refl _) (by omega))
    | succ m ih =>
      intro k x2 x1 P1 h hR hj hm h2 h1
      refine g_iload_n X dX6_tick_22 rfl ?_
      refine g_iload_n X dX6_tick_23 rfl ?_
      refine g_icmp_ge 107 X dX6_tick_24 (by decide) (fun c24 => ?_) (fun c24 => ?_)
      · skip
        exact absurd (by rw [h2, h1]; exact nI_lt (by omega) (by omega)) c24
      · skip
        refine g_aload_n X dX6_tick_27 rfl ?_
        refine g_dup X dX6_tick_28 rfl ?_
        refine gp_geti (j := 7) X hR (⟨rfl, rfl⟩) cl_X6 lk_X6_207 rfl (by decide) rfl rfl dX6_tick_29 (fun x29 e29 => ?_)
        refine g_iconst (v := 1) X dX6_tick_32 (by decide) ?_
        refine g_iadd X dX6_tick_33 (fun x33 e33 => ?_)
        refine gp_puti (j := 7) X hR (⟨rfl, rfl⟩) cl_X6 lk_X6_207 rfl (by decide) rfl (by decide) rfl rfl rfl dX6_tick_34 (fun h hR => ?_)
        refine g_aload_n X dX6_tick_37 rfl ?_
        refine gp_get (j := 0) (v := .ref (ad 7 0 0)) X hR (⟨rfl, rfl⟩) cl_X6 lk_X6_11 rfl (by decide) rfl rfl dX6_tick_38 ?_
        refine g_astore_n (lv' := [(3, .ref (ad 7 0 0)), (2, .int x2), (1, .int x1), (0, .ref (ad 6 0 0))]) X dX6_tick_41 (by decide) rfl ?_
        refine g_aload_n X dX6_tick_42 rfl ?_
        refine gp_alen (v := 4) X hR (⟨rfl, rfl⟩) G.t0 rfl rfl dX6_tick_43 ?_
        refine g_istore (lv' := [(4, .int 4), (3, .ref (ad 7 0 0)), (2, .int x2), (1, .int x1), (0, .ref (ad 6 0 0))]) X dX6_tick_44 (by decide) rfl ?_
        refine g_iconst (v := 0) X dX6_tick_46 (by decide) ?_
        refine g_istore (lv' := [(5, .int 0), (4, .int 4), (3, .ref (ad 7 0 0)), (2, .int x2), (1, .int x1), (0, .ref (ad 6 0 0))]) X dX6_tick_47 (by decide) rfl ?_
        have hx33 : x33 = t + nI k + 1 := by rw [e33, e29, (JJ.1 _ _ hj).2]
        have hj2 : J (t + nI (k + 1)) (uI P1 6 0 0 7 x33) := by rw [hx33, nI_1s t k]; exact JJ.2.1 _ _ hj
        refine LI 4 0 0 x2 x1 (t + nI (k + 1)) _ h hR hj2 rfl rfl (fun P1 h hR hj => ?_)
        refine g_aload_n X dX6_tick_87 rfl ?_
        refine gp_geti (j := 7) X hR (⟨rfl, rfl⟩) cl_X6 lk_X6_207 rfl (by decide) rfl rfl dX6_tick_88 (fun x88 e88 => ?_)
        refine g_bipush (v := 10) X dX6_tick_91 (by decide) ?_
        refine g_irem X dX6_tick_93 (by decide) (fun x93 e93 => ?_)
        refine g_if_ne 101 X dX6_tick_94 (by decide) (fun c94 => ?_) (fun c94 => ?_)
        · skip
          refine gp_iinc 0 X dX6_tick_101 rfl (by decide) (fun x101 e101 => ?_)
          refine GJ.leq (lv' := [(2, .int x101), (1, .int x1), (0, .ref (ad 6 0 0))]) rfl ?_
          refine g_goto 22 X dX6_tick_104 (by decide) ?_
          exact ih (k + 1) x101 x1 _ _ hR hj (by omega) (by rw [e101, h2]; exact nI_1 k) h1
        · skip
          refine g_aload_n X dX6_tick_97 rfl ?_
          refine gp_V X RM lm_X6_257 (c_X6_letGuestsRecover G hR JJ hj) cl_X6 hR (⟨rfl, rfl⟩) rfl rfl rfl (Nat.le_of_ble_eq_true rfl) (by decide) (by decide) dX6_tick_98 (fun v hz q => ?_) (fun _ _ q => q.elim)
          obtain ⟨rfl, P98, hR, hj98⟩ := q
          refine GJ.seq (st' := []) rfl ?_
          refine gp_iinc 0 X dX6_tick_101 rfl (by decide) (fun x101 e101 => ?_)
          refine GJ.leq (lv' := [(2, .int x101), (1, .int x1), (0, .ref (ad 6 0 0))]) rfl ?_
          refine g_goto 22 X dX6_tick_104 (by decide) ?_
          exact ih (k + 1) x101 x1 _ _ hR hj98 (by omega) (by rw [e101, h2]; exact nI_1 k) h1
  refine g_iload_n X dX6_tick_0 rfl ?_
  refine g_iconst (v := 1) X dX6_tick_1 (by decide) ?_
  refine g_bipush (v := 60) X dX6_tick_2 (by decide) ?_
  refine gp_S X RM lm_X6_25 (c_X6_isWithin G hR) rfl rfl (Nat.le_of_ble_eq_true rfl) (by decide) (by decide) dX6_tick_4 (fun v hz q => ?_) (fun _ _ q => q.elim)
  obtain ⟨x4, rfl, e4, rfl⟩ := q
  refine GJ.seq (st' := [.int x4]) rfl ?_
  refine g_if_ne 20 X dX6_tick_7 (by decide) (fun c7 => ?_) (fun c7 => ?_)
  · skip
    refine g_iconst (v := 0) X dX6_tick_20 (by decide) ?_
    refine g_istore_n (lv' := [(2, .int 0), (0, .ref (ad 6 0 0)), (1, .int x1)]) X dX6_tick_21 (by decide) rfl ?_
    refine GJ.pick [0, 2, 1] rfl ?_
    exact L nn 0 0 x1 P _ hR (by rw [show nI 0 = 0 from rfl, Int32.add_zero]; exact hj) rfl rfl h1
  · skip
    exact absurd (e4.trans (if_pos (by rw [h1]; exact ⟨nI_nlt (a := nn) (b := 1) hnn.1 (by omega), nI_nlt (a := 60) (b := nn) hnn.2 (by omega)⟩))) (by rw [c7]; decide)
end GTICK
