/-! trains: pure words and contracts -/
section GTRAIN
def fSeat (P : gP) (r i : Nat) (l : List Nat) (g : Nat) : gP := fAboard (sTr P r i (l ++ [g])) g
def fGo (P : gP) (r i : Nat) (p : Int32) : gP := if pI P 5 r i 3 = 0 then uI (uI (uI P 5 r i 5 109) 5 r i 6 (pI P 5 r i 6 ||| p)) 5 r i 8 0 else uI (uI P 5 r i 5 109) 5 r i 6 (pI P 5 r i 6 ||| p)
def fOut (P : gP) (r i : Nat) (l : List Nat) : gP := sTr (fFinA P (pI P 5 r i 8) l) r i []
def fStand0 (P : gP) (r i : Nat) (s : Int32) : gP := uI (uI (uI (uI P 5 r i 3 s) 5 r i 4 0) 5 r i 5 115) 5 r i 6 (1 <<< (s &&& 31))
def fStand (P : gP) (r i : Nat) (l : List Nat) (s : Int32) : gP := if s = 0 then fOut (fStand0 P r i s) r i l else fStand0 P r i s
/-- a train's move, as far as it is asked later -/
def mvRel (P P2 : gP) (r i b : Nat) (l : List Nat) : Prop :=
  P2 = uI P 5 r i 7 0 ∨ P2 = uI P 5 r i 5 120 ∨ (fStop P r (fNx (pnB P r) b) = true ∧ P2 = fStand P r i l (nI (fNx (pnB P r) b))) ∨
  (fStop P r (fNx (pnB P r) b) = false ∧ ∃ e c f, P2 = uI (uI (uI (uI P 5 r i 3 (nI (fNx (pnB P r) b))) 5 r i 4 e) 5 r i 7 c) 5 r i 8 f)
theorem ro_step {P : gP} {r i k g : Nat} {f : Int32} {l : List Nat} (h : l[k]? = some g) : uRD (fFin (sRD (fFinA P f (l.take k)) r i (fun j => if j < k then none else l[j]?)) g f) r i k none = sRD (fFinA P f (l.take (k + 1))) r i (fun j => if j < k + 1 then none else l[j]?) := by
  have e1 : fFinA P f (l.take (k + 1)) = fFin (fFinA P f (l.take k)) g f := by
    rw [List.take_succ, h]
    simp [fFinA, List.foldl_append]
  have e2 : fFin (sRD (fFinA P f (l.take k)) r i (fun j => if j < k then none else l[j]?)) g f = sRD (fFin (fFinA P f (l.take k)) g f) r i (fun j => if j < k then none else l[j]?) := rfl
  rw [e2, uRD_sRD, e1]
  congr 1
  funext j
  by_cases h1 : j = k
  · simp [h1]
  · by_cases h2 : j < k
    · simp [h2, Nat.lt_succ_of_lt h2]
    · rw [if_neg h1, if_neg h2, if_neg (by omega)]
theorem ro_stepN {P : gP} {r i k : Nat} {f : Int32} {l : List Nat} (h : l[k]? = none) : uRD (sRD (fFinA P f (l.take k)) r i (fun j => if j < k then none else l[j]?)) r i k none = sRD (fFinA P f (l.take (k + 1))) r i (fun j => if j < k + 1 then none else l[j]?) := by
  have e1 : l.take (k + 1) = l.take k := by rw [List.take_succ, h]; simp
  rw [uRD_sRD, e1]
  congr 1
  funext j
  by_cases h1 : j = k
  · simp [h1]
  · by_cases h2 : j < k
    · simp [h2, Nat.lt_succ_of_lt h2]
    · rw [if_neg h1, if_neg h2, if_neg (by omega)]
theorem ro_end {P : gP} {r i : Nat} {f : Int32} {l : List Nat} (hl : l.length ≤ 8) : uI (sRD (fFinA P f (l.take 8)) r i (fun j => if j < 8 then none else l[j]?)) 5 r i 2 0 = sTr (fFinA P f l) r i [] := by
  rw [List.take_of_length_le hl, uI_sRD]
  unfold sTr
  congr 1
  funext j
  by_cases h2 : j < 8
  · simp [h2]
  · rw [if_neg h2, List.getElem?_eq_none (by omega)]
    simp
set_option maxHeartbeats 4000000 in
set_option maxRecDepth 100000 in
theorem c_X5_freeSeats {Z : gEnv} {ad : gAd} {P : gP} {h : gH} (G : gG Z) (hR : gRep Z ad P h) {r i : Nat} (hl : gLive P 5 r i) : gMet Z yX5_freeSeats cX5_freeSeats 1 ((Option.some FieldType.int)) 1 0 0 [.ref (ad 5 r i)] h (qI h (fun x => x = pI P 5 r i 0 - pI P 5 r i 2)) (qN) := by
  refine g_enter (lv := [(0, .ref (ad 5 r i))]) G.2 (by decide +kernel) (Nat.le_of_ble_eq_true rfl) rfl (fun Γ X Nt E RM => ?_)
  refine g_aload_n X dX5_freeSeats_0 rfl ?_
  refine gp_geti (j := 0) X hR hl cl_X5 lk_X5_22 rfl (by decide) rfl rfl dX5_freeSeats_1 (fun x1 e1 => ?_)
  refine g_aload_n X dX5_freeSeats_4 rfl ?_
  refine gp_geti (j := 2) X hR hl cl_X5 lk_X5_31 rfl (by decide) rfl rfl dX5_freeSeats_5 (fun x5 e5 => ?_)
  refine g_isub X dX5_freeSeats_8 (fun x8 e8 => ?_)
  refine g_ireturn X E rfl dX5_freeSeats_9 (by decide) (by decide) ?_
  exact ⟨_, rfl, by subst_vars; rfl, rfl⟩
set_option maxHeartbeats 4000000 in
set_option maxRecDepth 100000 in
theorem c_X5_isLargerParty {Z : gEnv} {ad : gAd} {P : gP} {h : gH} (G : gG Z) (hR : gRep Z ad P h) {r i : Nat} (hl : gLive P 5 r i) {x : Int32} : gMet Z yX5_isLargerParty cX5_isLargerParty 2 ((Option.some FieldType.boolean)) 1 0 0 [.ref (ad 5 r i), .int x] h (qI h (fun _ => True)) (qN) := by
  refine g_enter (lv := [(0, .ref (ad 5 r i)), (1, .int x)]) G.2 (by decide +kernel) (Nat.le_of_ble_eq_true rfl) rfl (fun Γ X Nt E RM => ?_)
  refine g_iload_n X dX5_isLargerParty_0 rfl ?_
  refine g_aload_n X dX5_isLargerParty_1 rfl ?_
  refine gp_geti (j := 0) X hR hl cl_X5 lk_X5_22 rfl (by decide) rfl rfl dX5_isLargerParty_2 (fun x2 e2 => ?_)
  refine g_icmp_le 12 X dX5_isLargerParty_5 (by decide) (fun c5 => ?_) (fun c5 => ?_)
  · skip
    refine g_iconst (v := 0) X dX5_isLargerParty_12 (by decide) ?_
    refine g_ireturn X E (by decide) dX5_isLargerParty_13 (by decide) (by decide) ?_
    exact ⟨_, rfl, trivial, rfl⟩
  · skip
    refine g_iconst (v := 1) X dX5_isLargerParty_8 (by decide) ?_
    refine g_goto 13 X dX5_isLargerParty_9 (by decide) ?_
    refine g_ireturn X E (by decide) dX5_isLargerParty_13 (by decide) (by decide) ?_
    exact ⟨_, rfl, trivial, rfl⟩
set_option maxHeartbeats 4000000 in
set_option maxRecDepth 100000 in
theorem c_X5_seat {Z : gEnv} {ad : gAd} {P : gP} {h : gH} (G : gG Z) (hR : gRep Z ad P h) {r i : Nat} (hl : gLive P 5 r i) {l : List Nat} (hT : Tr P r i l) (hn : l.length < 8) {o : Nat} (ho : gLive P 1 o 0) : gMet Z yX5_seat cX5_seat 2 ((Option.none : Option FieldType)) 2 0 0 [.ref (ad 5 r i), .ref (ad 1 o 0)] h (qM (fun h2 => ∃ P2, gRep Z ad P2 h2 ∧ P2 = fSeat P r i l o)) (qN) := by
  refine g_enter (lv := [(0, .ref (ad 5 r i)), (1, .ref (ad 1 o 0))]) G.2 (by decide +kernel) (Nat.le_of_ble_eq_true rfl) rfl (fun Γ X Nt E RM => ?_)
  refine g_aload_n X dX5_seat_0 rfl ?_
  refine gp_geti (j := 2) X hR hl cl_X5 lk_X5_31 rfl (by decide) rfl rfl dX5_seat_1 (fun x1 e1 => ?_)
  refine g_if_lt 43 X dX5_seat_4 (by decide) (fun c4 => ?_) (fun c4 => ?_)
  · skip
    exact absurd c4 (by rw [e1, hT.1]; exact nI_pos (by omega))
  · skip
    refine g_aload_n X dX5_seat_7 rfl ?_
    refine gp_geti (j := 2) X hR hl cl_X5 lk_X5_31 rfl (by decide) rfl rfl dX5_seat_8 (fun x8 e8 => ?_)
    refine g_aload_n X dX5_seat_11 rfl ?_
    refine gp_get (j := 1) (v := .ref (ad 12 r i)) X hR hl cl_X5 lk_X5_27 rfl (by decide) rfl rfl dX5_seat_12 ?_
    refine gp_alen (v := 8) X hR hl G.t2 rfl rfl dX5_seat_15 ?_
    refine g_icmp_ge 43 X dX5_seat_16 (by decide) (fun c16 => ?_) (fun c16 => ?_)
    · skip
      exact absurd (by rw [e8, hT.1]; exact nI_lt (b := 8) hn (by decide)) c16
    · skip
      refine g_aload_n X dX5_seat_19 rfl ?_
      refine gp_get (j := 1) (v := .ref (ad 12 r i)) X hR hl cl_X5 lk_X5_27 rfl (by decide) rfl rfl dX5_seat_20 ?_
      refine g_aload_n X dX5_seat_23 rfl ?_
      refine gp_geti (j := 2) X hR hl cl_X5 lk_X5_31 rfl (by decide) rfl rfl dX5_seat_24 (fun x24 e24 => ?_)
      refine g_aload_n X dX5_seat_27 rfl ?_
      refine gp_astRD (v := (some o)) (j := l.length) X G hR hl rfl (fun _ hh => by cases hh; exact ho) (e24.trans hT.1) hn dX5_seat_28 (fun h hR => ?_)
      refine g_aload_n X dX5_seat_29 rfl ?_
      refine g_dup X dX5_seat_30 rfl ?_
      refine gp_geti (j := 2) X hR hl cl_X5 lk_X5_31 rfl (by decide) rfl rfl dX5_seat_31 (fun x31 e31 => ?_)
      refine g_iconst (v := 1) X dX5_seat_34 (by decide) ?_
      refine g_iadd X dX5_seat_35 (fun x35 e35 => ?_)
      refine gp_puti (j := 2) X hR hl cl_X5 lk_X5_31 rfl (by decide) rfl (by decide) rfl rfl rfl dX5_seat_36 (fun h hR => ?_)
      refine g_aload_n X dX5_seat_39 rfl ?_
      refine gp_V X RM lm_X5_34 (c_X1_goAboard G hR ho) cl_X1 hR ho rfl rfl rfl (Nat.le_of_ble_eq_true rfl) (by decide) (by decide) dX5_seat_40 (fun v hz q => ?_) (fun _ _ q => q.elim)
      obtain ⟨rfl, _, hR, rfl⟩ := q
      refine GJ.seq (st' := []) rfl ?_
      refine g_return X E dX5_seat_43 (by decide) (by decide) ?_
      refine ⟨rfl, _, hR, ?_⟩
      have hx : x35 = nI (l ++ [o]).length := by rw [e35, e31, pI_uRD, hT.1, List.length_append]; exact nI_1 _
      unfold fSeat sTr
      rw [uRD_self, uI_sRD, ap_end hT.2.1, hx]
set_option maxHeartbeats 4000000 in
set_option maxRecDepth 100000 in
theorem c_X5_holds {Z : gEnv} {ad : gAd} {P : gP} {h : gH} (G : gG Z) (hR : gRep Z ad P h) {r i : Nat} (hl : gLive P 5 r i) {x : Int32} : gMet Z yX5_holds cX5_holds 2 ((Option.some FieldType.boolean)) 1 0 0 [.ref (ad 5 r i), .int x] h (qI h (fun y => y = if pI P 5 r i 6 &&& (1 <<< (x &&& 31)) = 0 then 0 else 1)) (qN) := by
  refine g_enter (lv := [(0, .ref (ad 5 r i)), (1, .int x)]) G.2 (by decide +kernel) (Nat.le_of_ble_eq_true rfl) rfl (fun Γ X Nt E RM => ?_)
  refine g_aload_n X dX5_holds_0 rfl ?_
  refine gp_geti (j := 6) X hR hl cl_X5 lk_X5_19 rfl (by decide) rfl rfl dX5_holds_1 (fun x1 e1 => ?_)
  refine g_iconst (v := 1) X dX5_holds_4 (by decide) ?_
  refine g_iload_n X dX5_holds_5 rfl ?_
  refine g_ishl X dX5_holds_6 (fun x6 e6 => ?_)
  refine g_iand X dX5_holds_7 (fun x7 e7 => ?_)
  refine g_if_eq 15 X dX5_holds_8 (by decide) (fun c8 => ?_) (fun c8 => ?_)
  · skip
    refine g_iconst (v := 0) X dX5_holds_15 (by decide) ?_
    refine g_ireturn X E (by decide) dX5_holds_16 (by decide) (by decide) ?_
    refine ⟨_, rfl, ?_, rfl⟩
    subst_vars
    simp_all
  · skip
    refine g_iconst (v := 1) X dX5_holds_11 (by decide) ?_
    refine g_goto 16 X dX5_holds_12 (by decide) ?_
    refine g_ireturn X E (by decide) dX5_holds_16 (by decide) (by decide) ?_
    refine ⟨_, rfl, ?_, rfl⟩
    subst_vars
    simp_all
set_option maxHeartbeats 4000000 in
set_option maxRecDepth 100000 in
theorem c_X5_leaveStop {Z : gEnv} {ad : gAd} {P : gP} {h : gH} (G : gG Z) (hR : gRep Z ad P h) {r i : Nat} (hl : gLive P 5 r i) {p : Int32} : gMet Z yX5_leaveStop cX5_leaveStop 2 ((Option.none : Option FieldType)) 1 0 0 [.ref (ad 5 r i), .int p] h (qM (fun h2 => ∃ P2, gRep Z ad P2 h2 ∧ P2 = fGo P r i p)) (qN) := by
  refine g_enter (lv := [(0, .ref (ad 5 r i)), (1, .int p)]) G.2 (by decide +kernel) (Nat.le_of_ble_eq_true rfl) rfl (fun Γ X Nt E RM => ?_)
  refine g_aload_n X dX5_leaveStop_0 rfl ?_
  refine g_bipush (v := 109) X dX5_leaveStop_1 (by decide) ?_
  refine gp_puti (j := 5) X hR hl cl_X5 lk_X5_15 rfl (by decide) rfl (by decide) rfl (by decide) (by decide) dX5_leaveStop_3 (fun h hR => ?_)
  refine g_aload_n X dX5_leaveStop_6 rfl ?_
  refine g_aload_n X dX5_leaveStop_7 rfl ?_
  refine gp_geti (j := 6) X hR hl cl_X5 lk_X5_19 rfl (by decide) rfl rfl dX5_leaveStop_8 (fun x8 e8 => ?_)
  refine g_iload_n X dX5_leaveStop_11 rfl ?_
  refine g_ior X dX5_leaveStop_12 (fun x12 e12 => ?_)
  refine gp_puti (j := 6) X hR hl cl_X5 lk_X5_19 rfl (by decide) rfl (by decide) rfl rfl rfl dX5_leaveStop_13 (fun h hR => ?_)
  refine g_aload_n X dX5_leaveStop_16 rfl ?_
  refine gp_geti (j := 3) X hR hl cl_X5 lk_X5_9 rfl (by decide) rfl rfl dX5_leaveStop_17 (fun x17 e17 => ?_)
  refine g_if_ne 28 X dX5_leaveStop_20 (by decide) (fun c20 => ?_) (fun c20 => ?_)
  · skip
    refine g_return X E dX5_leaveStop_28 (by decide) (by decide) ?_
    refine ⟨rfl, _, hR, ?_⟩
    subst_vars
    simp_all [fGo, pI_uI]
  · skip
    refine g_aload_n X dX5_leaveStop_23 rfl ?_
    refine g_iconst (v := 0) X dX5_leaveStop_24 (by decide) ?_
    refine gp_puti (j := 8) X hR hl cl_X5 lk_X5_37 rfl (by decide) rfl (by decide) rfl rfl rfl dX5_leaveStop_25 (fun h hR => ?_)
    refine g_return X E dX5_leaveStop_28 (by decide) (by decide) ?_
    refine ⟨rfl, _, hR, ?_⟩
    subst_vars
    simp_all [fGo, pI_uI]
set_option maxHeartbeats 4000000 in
set_option maxRecDepth 100000 in
theorem c_X5_letRidersOut {Z : gEnv} {ad : gAd} {P : gP} {h : gH} (G : gG Z) (hR : gRep Z ad P h) {r i : Nat} (hl : gLive P 5 r i) {l : List Nat} (hT : Tr P r i l) : gMet Z yX5_letRidersOut cX5_letRidersOut 3 ((Option.none : Option FieldType)) 3 0 0 [.ref (ad 5 r i)] h (qM (fun h2 => ∃ P2, gRep Z ad P2 h2 ∧ P2 = fOut P r i l)) (qN) := by
  refine g_enter (lv := [(0, .ref (ad 5 r i))]) G.2 (by decide +kernel) (Nat.le_of_ble_eq_true rfl) rfl (fun Γ X Nt E RM => ?_)
  have L : ∀ (m : Nat) (k : Nat) (x1 : Int32) (h : gH) (hR : gRep Z ad (sRD (fFinA P (pI P 5 r i 8) (l.take k)) r i (fun j => if j < k then none else l[j]?)) h) (hm : m + k = 8) (h1 : x1 = nI k), GJ Z Γ h 0 0 2 [(1, .int x1), (0, .ref (ad 5 r i))] [] := by
    intro m
    induction m with
    | zero =>
      intro k x1 h hR hm h1
      have hlk : gLive (sRD (fFinA P (pI P 5 r i 8) (l.take k)) r i (fun j => if j < k then none else l[j]?)) 5 r i := by rw [gLive_sRD, gLive_fFinA]; exact hl
      refine g_iload_n X dX5_letRidersOut_2 rfl ?_
      refine g_aload_n X dX5_letRidersOut_3 rfl ?_
      refine gp_get (j := 1) (v := .ref (ad 12 r i)) X hR hlk cl_X5 lk_X5_27 rfl (by decide) rfl rfl dX5_letRidersOut_4 ?_
      refine gp_alen (v := 8) X hR hlk G.t2 rfl rfl dX5_letRidersOut_7 ?_
      refine g_icmp_ge 43 X dX5_letRidersOut_8 (by decide) (fun c8 => ?_) (fun c8 => ?_)
      · skip
        refine g_aload_n X dX5_letRidersOut_43 rfl ?_
        refine g_iconst (v := 0) X dX5_letRidersOut_44 (by decide) ?_
        refine gp_puti (j := 2) X hR hlk cl_X5 lk_X5_31 rfl (by decide) rfl (by decide) rfl rfl rfl dX5_letRidersOut_45 (fun h hR => ?_)
        refine g_return X E dX5_letRidersOut_48 (by decide) (by decide) ?_
        have hk8 : k = 8 := by omega
        subst hk8
        exact ⟨rfl, _, hR, ro_end hT.2.2.1⟩
      · skip
        exact absurd c8 (by rw [h1]; exact nI_nlt (b := 8) (by omega) (by omega))
    | succ m ih =>
      intro k x1 h hR hm h1
      have hlk : gLive (sRD (fFinA P (pI P 5 r i 8) (l.take k)) r i (fun j => if j < k then none else l[j]?)) 5 r i := by rw [gLive_sRD, gLive_fFinA]; exact hl
      refine g_iload_n X dX5_letRidersOut_2 rfl ?_
      refine g_aload_n X dX5_letRidersOut_3 rfl ?_
      refine gp_get (j := 1) (v := .ref (ad 12 r i)) X hR hlk cl_X5 lk_X5_27 rfl (by decide) rfl rfl dX5_letRidersOut_4 ?_
      refine gp_alen (v := 8) X hR hlk G.t2 rfl rfl dX5_letRidersOut_7 ?_
      refine g_icmp_ge 43 X dX5_letRidersOut_8 (by decide) (fun c8 => ?_) (fun c8 => ?_)
      · skip
        exact absurd (by rw [h1]; exact nI_lt (b := 8) (by omega) (by omega)) c8
      · skip
        refine g_aload_n X dX5_letRidersOut_11 rfl ?_
        refine gp_get (j := 1) (v := .ref (ad 12 r i)) X hR hlk cl_X5 lk_X5_27 rfl (by decide) rfl rfl dX5_letRidersOut_12 ?_
        refine g_iload_n X dX5_letRidersOut_15 rfl ?_
        refine gp_aald_map (j := k) X hR hlk G.t2 rfl h1 (by omega) (by decide) dX5_letRidersOut_16 (fun g16 h16 => ?_) (fun h16 => ?_)
        · skip
          have hl16 : gLive (sRD (fFinA P (pI P 5 r i 8) (l.take k)) r i (fun j => if j < k then none else l[j]?)) 1 g16 0 := (by rw [pRD_sRD, if_pos ⟨rfl, rfl⟩, if_neg (Nat.lt_irrefl k)] at h16; rw [gLive_sRD, gLive_fFinA]; exact ⟨hT.2.2.2 _ (List.mem_of_getElem? h16), rfl⟩)
          refine g_astore_n (lv' := [(2, .ref (ad 1 g16 0)), (1, .int x1), (0, .ref (ad 5 r i))]) X dX5_letRidersOut_17 (by decide) rfl ?_
          refine g_aload_n X dX5_letRidersOut_18 rfl ?_
          refine g_ifnull X dX5_letRidersOut_19 ?_
          refine g_aload_n X dX5_letRidersOut_22 rfl ?_
          refine g_aload_n X dX5_letRidersOut_23 rfl ?_
          refine gp_geti (j := 8) X hR hlk cl_X5 lk_X5_37 rfl (by decide) rfl rfl dX5_letRidersOut_24 (fun x24 e24 => ?_)
          refine gp_V X RM lm_X5_85 (c_X1_finishRide G hR hl16) cl_X1 hR hl16 rfl rfl rfl (Nat.le_of_ble_eq_true rfl) (by decide) (by decide) dX5_letRidersOut_27 (fun v hz q => ?_) (fun _ _ q => q.elim)
          obtain ⟨rfl, _, hR, rfl⟩ := q
          refine GJ.seq (st' := []) rfl ?_
          refine g_aload_n X dX5_letRidersOut_30 rfl ?_
          refine gp_get (j := 1) (v := .ref (ad 12 r i)) X hR hlk cl_X5 lk_X5_27 rfl (by decide) rfl rfl dX5_letRidersOut_31 ?_
          refine g_iload_n X dX5_letRidersOut_34 rfl ?_
          refine g_null X dX5_letRidersOut_35 ?_
          refine gp_astRD (v := none) (j := k) X G hR hlk rfl (fun _ hh => by cases hh) h1 (by omega) dX5_letRidersOut_36 (fun h hR => ?_)
          refine gp_iinc 1 X dX5_letRidersOut_37 rfl (by decide) (fun x37 e37 => ?_)
          refine GJ.leq (lv' := [(1, .int x37), (2, .ref (ad 1 g16 0)), (0, .ref (ad 5 r i))]) rfl ?_
          refine g_goto 2 X dX5_letRidersOut_40 (by decide) ?_
          refine GJ.pick [0, 2] rfl ?_
          rw [pRD_sRD, if_pos ⟨rfl, rfl⟩, if_neg (Nat.lt_irrefl k)] at h16
          have hx24 : x24 = pI P 5 r i 8 := e24.trans ((fFinA_same _ _ _).2 5 r i 8 (by decide))
          subst hx24
          exact ih (k + 1) x37 h (by rw [← ro_step h16]; exact hR) (by omega) (by rw [e37, h1]; exact nI_1 k)
        · skip
          refine g_astore_nN (lv' := [(2, .null), (1, .int x1), (0, .ref (ad 5 r i))]) X dX5_letRidersOut_17 (by decide) rfl ?_
          refine g_aload_nN X dX5_letRidersOut_18 rfl ?_
          refine g_ifnullN 30 X dX5_letRidersOut_19 (by decide) ?_
          refine g_aload_n X dX5_letRidersOut_30 rfl ?_
          refine gp_get (j := 1) (v := .ref (ad 12 r i)) X hR hlk cl_X5 lk_X5_27 rfl (by decide) rfl rfl dX5_letRidersOut_31 ?_
          refine g_iload_n X dX5_letRidersOut_34 rfl ?_
          refine g_null X dX5_letRidersOut_35 ?_
          refine gp_astRD (v := none) (j := k) X G hR hlk rfl (fun _ hh => by cases hh) h1 (by omega) dX5_letRidersOut_36 (fun h hR => ?_)
          refine gp_iinc 1 X dX5_letRidersOut_37 rfl (by decide) (fun x37 e37 => ?_)
          refine GJ.leq (lv' := [(1, .int x37), (2, .null), (0, .ref (ad 5 r i))]) rfl ?_
          refine g_goto 2 X dX5_letRidersOut_40 (by decide) ?_
          refine GJ.pick [0, 2] rfl ?_
          rw [pRD_sRD, if_pos ⟨rfl, rfl⟩, if_neg (Nat.lt_irrefl k)] at h16
          exact ih (k + 1) x37 h (by rw [← ro_stepN h16]; exact hR) (by omega) (by rw [e37, h1]; exact nI_1 k)
  refine g_iconst (v := 0) X dX5_letRidersOut_0 (by decide) ?_
  refine g_istore_n (lv' := [(1, .int 0), (0, .ref (ad 5 r i))]) X dX5_letRidersOut_1 (by decide) rfl ?_
  exact L 8 0 0 h (by rw [List.take_zero]; show gRep Z ad (sRD P r i _) h; rw [sRD_id (fun j => by rw [if_neg (Nat.not_lt_zero j)]; exact hT.2.1 j)]; exact hR) rfl rfl
set_option maxHeartbeats 4000000 in
set_option maxRecDepth 100000 in
theorem c_X5_standIn {Z : gEnv} {ad : gAd} {P : gP} {h : gH} (G : gG Z) (hR : gRep Z ad P h) {r i : Nat} (hl : gLive P 5 r i) {l : List Nat} (hT : Tr P r i l) {x : Int32} : gMet Z yX5_standIn cX5_standIn 2 ((Option.none : Option FieldType)) 4 0 0 [.ref (ad 5 r i), .int x] h (qM (fun h2 => ∃ P2, gRep Z ad P2 h2 ∧ P2 = fStand P r i l x)) (qN) := by
  refine g_enter (lv := [(0, .ref (ad 5 r i)), (1, .int x)]) G.2 (by decide +kernel) (Nat.le_of_ble_eq_true rfl) rfl (fun Γ X Nt E RM => ?_)
  refine g_aload_n X dX5_standIn_0 rfl ?_
  refine g_iload_n X dX5_standIn_1 rfl ?_
  refine gp_puti (j := 3) X hR hl cl_X5 lk_X5_9 rfl (by decide) rfl (by decide) rfl rfl rfl dX5_standIn_2 (fun h hR => ?_)
  refine g_aload_n X dX5_standIn_5 rfl ?_
  refine g_iconst (v := 0) X dX5_standIn_6 (by decide) ?_
  refine gp_puti (j := 4) X hR hl cl_X5 lk_X5_54 rfl (by decide) rfl (by decide) rfl rfl rfl dX5_standIn_7 (fun h hR => ?_)
  refine g_aload_n X dX5_standIn_10 rfl ?_
  refine g_bipush (v := 115) X dX5_standIn_11 (by decide) ?_
  refine gp_puti (j := 5) X hR hl cl_X5 lk_X5_15 rfl (by decide) rfl (by decide) rfl (by decide) (by decide) dX5_standIn_13 (fun h hR => ?_)
  refine g_aload_n X dX5_standIn_16 rfl ?_
  refine g_iconst (v := 1) X dX5_standIn_17 (by decide) ?_
  refine g_iload_n X dX5_standIn_18 rfl ?_
  refine g_ishl X dX5_standIn_19 (fun x19 e19 => ?_)
  refine gp_puti (j := 6) X hR hl cl_X5 lk_X5_19 rfl (by decide) rfl (by decide) rfl rfl rfl dX5_standIn_20 (fun h hR => ?_)
  refine g_iload_n X dX5_standIn_23 rfl ?_
  refine g_if_ne 31 X dX5_standIn_24 (by decide) (fun c24 => ?_) (fun c24 => ?_)
  · skip
    refine g_return X E dX5_standIn_31 (by decide) (by decide) ?_
    refine ⟨rfl, _, hR, ?_⟩
    subst_vars
    simp_all [fStand, fStand0]
  · skip
    refine g_aload_n X dX5_standIn_27 rfl ?_
    refine gp_V X RM lm_X5_82 (c_X5_letRidersOut G hR hl ((((hT.uI (by decide)).uI (by decide)).uI (by decide)).uI (by decide))) cl_X5 hR hl rfl rfl rfl (Nat.le_of_ble_eq_true rfl) (by decide) (by decide) dX5_standIn_28 (fun v hz q => ?_) (fun _ _ q => q.elim)
    obtain ⟨rfl, _, hR, rfl⟩ := q
    refine GJ.seq (st' := []) rfl ?_
    refine g_return X E dX5_standIn_31 (by decide) (by decide) ?_
    refine ⟨rfl, _, hR, ?_⟩
    subst_vars
    simp_all [fStand, fStand0]
set_option maxHeartbeats 4000000 in
set_option maxRecDepth 100000 in
theorem c_X5_countOf {Z : gEnv} {ad : gAd} {P : gP} {h : gH} (G : gG Z) (hR : gRep Z ad P h) {r i : Nat} (hl : gLive P 5 r i) {l : List Nat} (hT : Tr P r i l) {o : Nat} (ho : gLive P 1 o 0) : gMet Z yX5_countOf cX5_countOf 4 ((Option.some FieldType.int)) 1 0 0 [.ref (ad 5 r i), .ref (ad 1 o 0)] h (qI h (fun x => x = nI (l.count o))) (qN) := by
  refine g_enter (lv := [(0, .ref (ad 5 r i)), (1, .ref (ad 1 o 0))]) G.2 (by decide +kernel) (Nat.le_of_ble_eq_true rfl) rfl (fun Γ X Nt E RM => ?_)
  have L : ∀ (m : Nat) (k : Nat) (x2 x3 : Int32) (hm : m + k = 8) (h3 : x3 = nI k) (h2 : x2 = nI ((l.take k).count o)), GJ Z Γ h 0 0 4 [(3, .int x3), (2, .int x2), (1, .ref (ad 1 o 0)), (0, .ref (ad 5 r i))] [] := by
    intro m
    induction m with
    | zero =>
      intro k x2 x3 hm h3 h2
      refine g_iload_n X dX5_countOf_4 rfl ?_
      refine g_aload_n X dX5_countOf_5 rfl ?_
      refine gp_geti (j := 2) X hR hl cl_X5 lk_X5_31 rfl (by decide) rfl rfl dX5_countOf_6 (fun x6 e6 => ?_)
      refine g_icmp_ge 40 X dX5_countOf_9 (by decide) (fun c9 => ?_) (fun c9 => ?_)
      · skip
        refine g_iload_n X dX5_countOf_40 rfl ?_
        refine g_ireturn X E rfl dX5_countOf_41 (by decide) (by decide) ?_
        refine ⟨_, rfl, ?_, rfl⟩
        rw [h2, List.take_of_length_le ?_]
        rcases Nat.lt_or_ge k l.length with q9 | q9
        · exact absurd (by rw [h3, e6, hT.1]; exact nI_lt q9 (by have := hT.2.2.1; omega)) c9
        · exact q9
      · skip
        refine g_iload_n X dX5_countOf_12 rfl ?_
        refine g_aload_n X dX5_countOf_13 rfl ?_
        refine gp_get (j := 1) (v := .ref (ad 12 r i)) X hR hl cl_X5 lk_X5_27 rfl (by decide) rfl rfl dX5_countOf_14 ?_
        refine gp_alen (v := 8) X hR hl G.t2 rfl rfl dX5_countOf_17 ?_
        refine g_icmp_ge 40 X dX5_countOf_18 (by decide) (fun c18 => ?_) (fun c18 => ?_)
        · skip
          refine absurd c9 ?_
          rw [h3, e6, hT.1]
          exact nI_nlt (by have := hT.2.2.1; omega) (by omega)
        · skip
          exact absurd c18 (by rw [h3]; exact nI_nlt (b := 8) (by omega) (by omega))
    | succ m ih =>
      intro k x2 x3 hm h3 h2
      refine g_iload_n X dX5_countOf_4 rfl ?_
      refine g_aload_n X dX5_countOf_5 rfl ?_
      refine gp_geti (j := 2) X hR hl cl_X5 lk_X5_31 rfl (by decide) rfl rfl dX5_countOf_6 (fun x6 e6 => ?_)
      refine g_icmp_ge 40 X dX5_countOf_9 (by decide) (fun c9 => ?_) (fun c9 => ?_)
      · skip
        refine g_iload_n X dX5_countOf_40 rfl ?_
        refine g_ireturn X E rfl dX5_countOf_41 (by decide) (by decide) ?_
        refine ⟨_, rfl, ?_, rfl⟩
        rw [h2, List.take_of_length_le ?_]
        rcases Nat.lt_or_ge k l.length with q9 | q9
        · exact absurd (by rw [h3, e6, hT.1]; exact nI_lt q9 (by have := hT.2.2.1; omega)) c9
        · exact q9
      · skip
        refine g_iload_n X dX5_countOf_12 rfl ?_
        refine g_aload_n X dX5_countOf_13 rfl ?_
        refine gp_get (j := 1) (v := .ref (ad 12 r i)) X hR hl cl_X5 lk_X5_27 rfl (by decide) rfl rfl dX5_countOf_14 ?_
        refine gp_alen (v := 8) X hR hl G.t2 rfl rfl dX5_countOf_17 ?_
        refine g_icmp_ge 40 X dX5_countOf_18 (by decide) (fun c18 => ?_) (fun c18 => ?_)
        · skip
          exact absurd (by rw [h3]; exact nI_lt (b := 8) (by omega) (by omega)) c18
        · skip
          refine g_aload_n X dX5_countOf_21 rfl ?_
          refine gp_get (j := 1) (v := .ref (ad 12 r i)) X hR hl cl_X5 lk_X5_27 rfl (by decide) rfl rfl dX5_countOf_22 ?_
          refine g_iload_n X dX5_countOf_25 rfl ?_
          refine gp_aald_map (j := k) X hR hl G.t2 rfl h3 (by omega) (by decide) dX5_countOf_26 (fun g26 h26 => ?_) (fun h26 => ?_)
          · skip
            have hl26 : gLive P 1 g26 0 := ⟨hT.mem h26, rfl⟩
            refine g_aload_n X dX5_countOf_27 rfl ?_
            refine g_acmp_ne 34 X dX5_countOf_28 (by decide) (fun c28 => ?_) (fun c28 => ?_)
            · skip
              refine gp_iinc 0 X dX5_countOf_34 rfl (by decide) (fun x34 e34 => ?_)
              refine GJ.leq (lv' := [(3, .int x34), (2, .int x2), (1, .ref (ad 1 o 0)), (0, .ref (ad 5 r i))]) rfl ?_
              refine g_goto 4 X dX5_countOf_37 (by decide) ?_
              have hgo : g26 = o ↔ ad 1 g26 0 = ad 1 o 0 := ⟨fun e => by rw [e], fun e => (hR.2 _ _ _ _ _ _ hl26 ho e).2.1⟩
              have hl9 : l[k]? = some g26 := by rw [← hT.2.1]; exact h26
              exact ih (k + 1) x2 x34 (by omega) (by rw [e34, h3]; exact nI_1 k) (by rw [ct_step hl9, if_neg (fun e => c28 (hgo.mp e)), h2, Nat.add_zero])
            · skip
              refine gp_iinc 1 X dX5_countOf_31 rfl (by decide) (fun x31 e31 => ?_)
              refine GJ.leq (lv' := [(2, .int x31), (3, .int x3), (1, .ref (ad 1 o 0)), (0, .ref (ad 5 r i))]) rfl ?_
              refine gp_iinc 1 X dX5_countOf_34 rfl (by decide) (fun x34 e34 => ?_)
              refine GJ.leq (lv' := [(3, .int x34), (2, .int x31), (1, .ref (ad 1 o 0)), (0, .ref (ad 5 r i))]) rfl ?_
              refine g_goto 4 X dX5_countOf_37 (by decide) ?_
              have hgo : g26 = o ↔ ad 1 g26 0 = ad 1 o 0 := ⟨fun e => by rw [e], fun e => (hR.2 _ _ _ _ _ _ hl26 ho e).2.1⟩
              have hl9 : l[k]? = some g26 := by rw [← hT.2.1]; exact h26
              exact ih (k + 1) x31 x34 (by omega) (by rw [e34, h3]; exact nI_1 k) (by rw [ct_step hl9, if_pos (hgo.mpr c28), e31, h2]; exact nI_1 _)
          · skip
            exact absurd h26 (by rw [hT.at (by rw [h3, e6, hT.1] at c9; exact (nI_ltI (by omega) (by have := hT.2.2.1; omega)).mp c9)]; exact fun hh => by cases hh)
  refine g_iconst (v := 0) X dX5_countOf_0 (by decide) ?_
  refine g_istore_n (lv' := [(2, .int 0), (0, .ref (ad 5 r i)), (1, .ref (ad 1 o 0))]) X dX5_countOf_1 (by decide) rfl ?_
  refine g_iconst (v := 0) X dX5_countOf_2 (by decide) ?_
  refine g_istore_n (lv' := [(3, .int 0), (2, .int 0), (0, .ref (ad 5 r i)), (1, .ref (ad 1 o 0))]) X dX5_countOf_3 (by decide) rfl ?_
  refine GJ.pick [0, 1, 3, 2] rfl ?_
  exact L 8 0 0 0 rfl rfl (by simp; rfl)
set_option maxHeartbeats 4000000 in
set_option maxRecDepth 100000 in
theorem c_X5_moveOn {Z : gEnv} {ad : gAd} {P : gP} {h : gH} (G : gG Z) (hR : gRep Z ad P h) {r i : Nat} (hl : gLive P 5 r i) {l : List Nat} (hT : Tr P r i l) (hB : pnB P r ≤ 12) {b : Nat} (hb : pI P 5 r i 3 = nI b) (hbn : b < pnB P r) {w : Int32} : gMet Z yX5_moveOn cX5_moveOn 6 ((Option.none : Option FieldType)) 5 0 0 [.ref (ad 5 r i), .ref (ad 4 r 0), .int w] h (qM (fun h2 => ∃ P2, gRep Z ad P2 h2 ∧ mvRel P P2 r i b l)) (qN) := by
  refine g_enter (lv := [(0, .ref (ad 5 r i)), (1, .ref (ad 4 r 0)), (2, .int w)]) G.2 (by decide +kernel) (Nat.le_of_ble_eq_true rfl) rfl (fun Γ X Nt E RM => ?_)
  have hlR : gLive P 4 r 0 := ⟨hl.1, rfl⟩
  refine g_aload_n X dX5_moveOn_0 rfl ?_
  refine gp_geti (j := 7) X hR hl cl_X5 lk_X5_40 rfl (by decide) rfl rfl dX5_moveOn_1 (fun x1 e1 => ?_)
  refine g_if_eq 13 X dX5_moveOn_4 (by decide) (fun c4 => ?_) (fun c4 => ?_)
  · skip
    refine g_aload_n X dX5_moveOn_13 rfl ?_
    refine g_aload_n X dX5_moveOn_14 rfl ?_
    refine gp_geti (j := 3) X hR hl cl_X5 lk_X5_9 rfl (by decide) rfl rfl dX5_moveOn_15 (fun x15 e15 => ?_)
    refine gp_V X RM lm_X5_44 (c_X4_blockOrNull G hR hlR hB) cl_X4 hR hlR rfl rfl rfl (Nat.le_of_ble_eq_true rfl) (by decide) (by decide) dX5_moveOn_18 (fun v hz q => ?_) (fun _ _ q => q.elim)
    obtain ⟨w18, rfl, e18, rfl⟩ := q
    rcases e18 with ⟨j18, f18, k18, rfl⟩ | ⟨rfl, f18⟩
    · skip
      obtain rfl : b = j18 := (nI_eq (Nat.lt_of_lt_of_le hbn (Nat.le_trans hB (by decide))) (by omega)).mp (((e15.trans hb)).symm.trans f18)
      have hl18 : gLive P 0 r b := ⟨(hlR).1, k18⟩
      refine GJ.seq (st' := [.ref (ad 0 r b)]) rfl ?_
      refine g_astore_n (lv' := [(3, .ref (ad 0 r b)), (0, .ref (ad 5 r i)), (1, .ref (ad 4 r 0)), (2, .int w)]) X dX5_moveOn_21 (by decide) rfl ?_
      refine g_aload_n X dX5_moveOn_22 rfl ?_
      refine g_aload_n X dX5_moveOn_23 rfl ?_
      refine g_aload_n X dX5_moveOn_24 rfl ?_
      refine gp_geti (j := 3) X hR hl cl_X5 lk_X5_9 rfl (by decide) rfl rfl dX5_moveOn_25 (fun x25 e25 => ?_)
      refine gp_V X RM lm_X5_50 (c_X4_next G hR hlR hB (e25.trans hb) hbn) cl_X4 hR hlR rfl rfl rfl (Nat.le_of_ble_eq_true rfl) (by decide) (by decide) dX5_moveOn_28 (fun v hz q => ?_) (fun _ _ q => q.elim)
      obtain ⟨x28, rfl, e28, rfl⟩ := q
      refine GJ.seq (st' := [.int x28, .ref (ad 4 r 0)]) rfl ?_
      refine gp_V X RM lm_X5_44 (c_X4_blockOrNull G hR hlR hB) cl_X4 hR hlR rfl rfl rfl (Nat.le_of_ble_eq_true rfl) (by decide) (by decide) dX5_moveOn_31 (fun v hz q => ?_) (fun _ _ q => q.elim)
      obtain ⟨w31, rfl, e31, rfl⟩ := q
      rcases e31 with ⟨j31, f31, k31, rfl⟩ | ⟨rfl, f31⟩
      · skip
        obtain rfl : (fNx (pnB P r) b) = j31 := (nI_eq (Nat.lt_of_lt_of_le (fNx_lt hbn) (Nat.le_trans hB (by decide))) (by omega)).mp ((e28).symm.trans f31)
        have hl31 : gLive P 0 r (fNx (pnB P r) b) := ⟨(hlR).1, k31⟩
        refine GJ.seq (st' := [.ref (ad 0 r (fNx (pnB P r) b))]) rfl ?_
        refine g_astore (lv' := [(4, .ref (ad 0 r (fNx (pnB P r) b))), (3, .ref (ad 0 r b)), (0, .ref (ad 5 r i)), (1, .ref (ad 4 r 0)), (2, .int w)]) X dX5_moveOn_34 (by decide) rfl ?_
        refine g_aload_n X dX5_moveOn_36 rfl ?_
        refine g_ifnull X dX5_moveOn_37 ?_
        refine g_aload X dX5_moveOn_40 rfl ?_
        refine g_ifnonnull 46 X dX5_moveOn_42 (by decide) ?_
        refine g_aload_n X dX5_moveOn_46 rfl ?_
        refine g_aload_n X dX5_moveOn_47 rfl ?_
        refine gp_geti (j := 4) X hR hl cl_X5 lk_X5_54 rfl (by decide) rfl rfl dX5_moveOn_48 (fun x48 e48 => ?_)
        refine g_iload_n X dX5_moveOn_51 rfl ?_
        refine gp_V X RM lm_X5_57 (c_X0_energyBehind G hR hl18) cl_X0 hR hl18 rfl rfl rfl (Nat.le_of_ble_eq_true rfl) (by decide) (by decide) dX5_moveOn_52 (fun v hz q => ?_) (fun _ _ q => q.elim)
        obtain ⟨x52, rfl, e52, rfl⟩ := q
        refine GJ.seq (st' := [.int x52]) rfl ?_
        refine g_istore (lv' := [(5, .int x52), (4, .ref (ad 0 r (fNx (pnB P r) b))), (3, .ref (ad 0 r b)), (0, .ref (ad 5 r i)), (1, .ref (ad 4 r 0)), (2, .int w)]) X dX5_moveOn_55 (by decide) rfl ?_
        refine g_iload X dX5_moveOn_57 rfl ?_
        refine g_if_ge 71 X dX5_moveOn_59 (by decide) (fun c59 => ?_) (fun c59 => ?_)
        · skip
          refine g_aload X dX5_moveOn_71 rfl ?_
          refine gp_V X RM lm_X5_63 (c_X0_isStop G hR hl31) cl_X0 hR hl31 rfl rfl rfl (Nat.le_of_ble_eq_true rfl) (by decide) (by decide) dX5_moveOn_73 (fun v hz q => ?_) (fun _ _ q => q.elim)
          obtain ⟨x73, rfl, e73, rfl⟩ := q
          refine GJ.seq (st' := [.int x73]) rfl ?_
          refine g_if_eq 94 X dX5_moveOn_76 (by decide) (fun c76 => ?_) (fun c76 => ?_)
          · skip
            refine g_aload_n X dX5_moveOn_94 rfl ?_
            refine g_aload_n X dX5_moveOn_95 rfl ?_
            refine g_aload_n X dX5_moveOn_96 rfl ?_
            refine gp_geti (j := 3) X hR hl cl_X5 lk_X5_9 rfl (by decide) rfl rfl dX5_moveOn_97 (fun x97 e97 => ?_)
            refine gp_V X RM lm_X5_50 (c_X4_next G hR hlR hB (e97.trans hb) hbn) cl_X4 hR hlR rfl rfl rfl (Nat.le_of_ble_eq_true rfl) (by decide) (by decide) dX5_moveOn_100 (fun v hz q => ?_) (fun _ _ q => q.elim)
            obtain ⟨x100, rfl, e100, rfl⟩ := q
            refine GJ.seq (st' := [.int x100, .ref (ad 5 r i)]) rfl ?_
            refine gp_puti (j := 3) X hR hl cl_X5 lk_X5_9 rfl (by decide) rfl (by decide) rfl rfl rfl dX5_moveOn_103 (fun h hR => ?_)
            refine g_aload_n X dX5_moveOn_106 rfl ?_
            refine g_iload X dX5_moveOn_107 rfl ?_
            refine gp_puti (j := 4) X hR hl cl_X5 lk_X5_54 rfl (by decide) rfl (by decide) rfl rfl rfl dX5_moveOn_109 (fun h hR => ?_)
            refine g_aload_n X dX5_moveOn_112 rfl ?_
            refine g_aload X dX5_moveOn_113 rfl ?_
            refine gp_geti (j := 0) X hR hl31 cl_X0 lk_X5_71 rfl (by decide) rfl rfl dX5_moveOn_115 (fun x115 e115 => ?_)
            refine g_bipush (v := 108) X dX5_moveOn_118 (by decide) ?_
            refine g_icmp_ne 127 X dX5_moveOn_120 (by decide) (fun c120 => ?_) (fun c120 => ?_)
            · skip
              refine g_iconst (v := 0) X dX5_moveOn_127 (by decide) ?_
              refine gp_puti (j := 7) X hR hl cl_X5 lk_X5_40 rfl (by decide) rfl (by decide) rfl (by decide) (by decide) dX5_moveOn_128 (fun h hR => ?_)
              refine g_aload_n X dX5_moveOn_131 rfl ?_
              refine g_aload_n X dX5_moveOn_132 rfl ?_
              refine gp_geti (j := 8) X hR hl cl_X5 lk_X5_37 rfl (by decide) rfl rfl dX5_moveOn_133 (fun x133 e133 => ?_)
              refine g_aload X dX5_moveOn_136 rfl ?_
              refine g_aload_n X dX5_moveOn_138 rfl ?_
              refine gp_geti (j := 4) X hR hl cl_X5 lk_X5_54 rfl (by decide) rfl rfl dX5_moveOn_139 (fun x139 e139 => ?_)
              refine gp_V X RM lm_X5_74 (c_X0_forceFor G hR hl31) cl_X0 hR hl31 rfl rfl rfl (Nat.le_of_ble_eq_true rfl) (by decide) (by decide) dX5_moveOn_142 (fun v hz q => ?_) (fun _ _ q => q.elim)
              obtain ⟨x142, rfl, e142, rfl⟩ := q
              refine GJ.seq (st' := [.int x142, .int x133, .ref (ad 5 r i)]) rfl ?_
              refine gp_max X RM lm_X5_77 ⟨Nat.le_of_ble_eq_true rfl, Nat.le_of_ble_eq_true rfl⟩ ⟨Nat.le_of_ble_eq_true rfl, Nat.le_of_ble_eq_true rfl⟩ dX5_moveOn_145 (fun x145 e145 => ?_)
              refine gp_puti (j := 8) X hR hl cl_X5 lk_X5_37 rfl (by decide) rfl (by decide) rfl rfl rfl dX5_moveOn_148 (fun h hR => ?_)
              refine g_return X E dX5_moveOn_151 (by decide) (by decide) ?_
              first
              | exact ⟨rfl, _, hR, Or.inr (Or.inl rfl)⟩
              | (subst e85; exact ⟨rfl, _, hR, Or.inr (Or.inr (Or.inl ⟨(bz e73).2.mp c76, rfl⟩))⟩)
              | (subst e100; exact ⟨rfl, _, hR, Or.inr (Or.inr (Or.inr ⟨(bz e73).1.mp c76, _, _, _, rfl⟩))⟩)
            · skip
              refine g_iconst (v := 1) X dX5_moveOn_123 (by decide) ?_
              refine g_goto 128 X dX5_moveOn_124 (by decide) ?_
              refine gp_puti (j := 7) X hR hl cl_X5 lk_X5_40 rfl (by decide) rfl (by decide) rfl (by decide) (by decide) dX5_moveOn_128 (fun h hR => ?_)
              refine g_aload_n X dX5_moveOn_131 rfl ?_
              refine g_aload_n X dX5_moveOn_132 rfl ?_
              refine gp_geti (j := 8) X hR hl cl_X5 lk_X5_37 rfl (by decide) rfl rfl dX5_moveOn_133 (fun x133 e133 => ?_)
              refine g_aload X dX5_moveOn_136 rfl ?_
              refine g_aload_n X dX5_moveOn_138 rfl ?_
              refine gp_geti (j := 4) X hR hl cl_X5 lk_X5_54 rfl (by decide) rfl rfl dX5_moveOn_139 (fun x139 e139 => ?_)
              refine gp_V X RM lm_X5_74 (c_X0_forceFor G hR hl31) cl_X0 hR hl31 rfl rfl rfl (Nat.le_of_ble_eq_true rfl) (by decide) (by decide) dX5_moveOn_142 (fun v hz q => ?_) (fun _ _ q => q.elim)
              obtain ⟨x142, rfl, e142, rfl⟩ := q
              refine GJ.seq (st' := [.int x142, .int x133, .ref (ad 5 r i)]) rfl ?_
              refine gp_max X RM lm_X5_77 ⟨Nat.le_of_ble_eq_true rfl, Nat.le_of_ble_eq_true rfl⟩ ⟨Nat.le_of_ble_eq_true rfl, Nat.le_of_ble_eq_true rfl⟩ dX5_moveOn_145 (fun x145 e145 => ?_)
              refine gp_puti (j := 8) X hR hl cl_X5 lk_X5_37 rfl (by decide) rfl (by decide) rfl rfl rfl dX5_moveOn_148 (fun h hR => ?_)
              refine g_return X E dX5_moveOn_151 (by decide) (by decide) ?_
              first
              | exact ⟨rfl, _, hR, Or.inr (Or.inl rfl)⟩
              | (subst e85; exact ⟨rfl, _, hR, Or.inr (Or.inr (Or.inl ⟨(bz e73).2.mp c76, rfl⟩))⟩)
              | (subst e100; exact ⟨rfl, _, hR, Or.inr (Or.inr (Or.inr ⟨(bz e73).1.mp c76, _, _, _, rfl⟩))⟩)
          · skip
            refine g_aload_n X dX5_moveOn_79 rfl ?_
            refine g_aload_n X dX5_moveOn_80 rfl ?_
            refine g_aload_n X dX5_moveOn_81 rfl ?_
            refine gp_geti (j := 3) X hR hl cl_X5 lk_X5_9 rfl (by decide) rfl rfl dX5_moveOn_82 (fun x82 e82 => ?_)
            refine gp_V X RM lm_X5_50 (c_X4_next G hR hlR hB (e82.trans hb) hbn) cl_X4 hR hlR rfl rfl rfl (Nat.le_of_ble_eq_true rfl) (by decide) (by decide) dX5_moveOn_85 (fun v hz q => ?_) (fun _ _ q => q.elim)
            obtain ⟨x85, rfl, e85, rfl⟩ := q
            refine GJ.seq (st' := [.int x85, .ref (ad 5 r i)]) rfl ?_
            refine gp_V X RM lm_X5_67 (c_X5_standIn G hR hl hT) cl_X5 hR hl rfl rfl rfl (Nat.le_of_ble_eq_true rfl) (by decide) (by decide) dX5_moveOn_88 (fun v hz q => ?_) (fun _ _ q => q.elim)
            obtain ⟨rfl, _, hR, rfl⟩ := q
            refine GJ.seq (st' := []) rfl ?_
            refine g_goto 151 X dX5_moveOn_91 (by decide) ?_
            refine g_return X E dX5_moveOn_151 (by decide) (by decide) ?_
            first
            | exact ⟨rfl, _, hR, Or.inr (Or.inl rfl)⟩
            | (subst e85; exact ⟨rfl, _, hR, Or.inr (Or.inr (Or.inl ⟨(bz e73).2.mp c76, rfl⟩))⟩)
            | (subst e100; exact ⟨rfl, _, hR, Or.inr (Or.inr (Or.inr ⟨(bz e73).1.mp c76, _, _, _, rfl⟩))⟩)
        · skip
          refine g_aload_n X dX5_moveOn_62 rfl ?_
          refine g_bipush (v := 120) X dX5_moveOn_63 (by decide) ?_
          refine gp_puti (j := 5) X hR hl cl_X5 lk_X5_15 rfl (by decide) rfl (by decide) rfl (by decide) (by decide) dX5_moveOn_65 (fun h hR => ?_)
          refine g_goto 151 X dX5_moveOn_68 (by decide) ?_
          refine g_return X E dX5_moveOn_151 (by decide) (by decide) ?_
          first
          | exact ⟨rfl, _, hR, Or.inr (Or.inl rfl)⟩
          | (subst e85; exact ⟨rfl, _, hR, Or.inr (Or.inr (Or.inl ⟨(bz e73).2.mp c76, rfl⟩))⟩)
          | (subst e100; exact ⟨rfl, _, hR, Or.inr (Or.inr (Or.inr ⟨(bz e73).1.mp c76, _, _, _, rfl⟩))⟩)
      · skip
        exact absurd e28 (f31 _ (fNx_lt hbn))
    · skip
      exact absurd (e15.trans hb) (f18 _ hbn)
  · skip
    refine g_aload_n X dX5_moveOn_7 rfl ?_
    refine g_iconst (v := 0) X dX5_moveOn_8 (by decide) ?_
    refine gp_puti (j := 7) X hR hl cl_X5 lk_X5_40 rfl (by decide) rfl (by decide) rfl (by decide) (by decide) dX5_moveOn_9 (fun h hR => ?_)
    refine g_return X E dX5_moveOn_12 (by decide) (by decide) ?_
    exact ⟨rfl, _, hR, Or.inl rfl⟩
end GTRAIN
