/-! a block: pure words and contracts -/
section GBLOCK
def gChr (x : Int32) : Prop := narrow .char (.int x) = .int x ∧ fits .char (.int x) = true
def fStop (P : gP) (r b : Nat) : Bool := decide (pI P 0 r b 0 = 115) || decide (pI P 0 r b 0 = 98)
def fEB (P : gP) (r b : Nat) (e w : Int32) : Int32 := if fStop P r b then 3 else if pI P 0 r b 0 = 108 then 5 else e - (if 15 < w then 2 * ((pI P 0 r b 1 + 3) / 4) else (pI P 0 r b 1 + 3) / 4) - 2 * pI P 0 r b 2
def fFF (P : gP) (r b : Nat) (e : Int32) : Int32 := if fStop P r b ∨ pI P 0 r b 1 < 1 then 0 else pI P 0 r b 3 * e / pI P 0 r b 1 + 1
def fSens (P : gP) (r b : Nat) (p : Int32) : Int32 := if p = 0 then pI P 0 r b 4 else pI P 0 r b 5
def fSeen (P : gP) (r b : Nat) (p t : Int32) : Int32 := if fSens P r b p = 97 ∨ (fSens P r b p = 116 ∧ ¬ t = 0) then 1 else 0
theorem bz {x : Int32} {b : Bool} (h : x = if b then 1 else 0) : (x = 0 ↔ b = false) ∧ (¬ x = 0 ↔ b = true) := by
  subst h
  cases b <;> simp
set_option maxHeartbeats 4000000 in
set_option maxRecDepth 100000 in
theorem c_X0_isStop {Z : gEnv} {ad : gAd} {P : gP} {h : gH} (G : gG Z) (hR : gRep Z ad P h) {r b : Nat} (hl : gLive P 0 r b) : gMet Z yX0_isStop cX0_isStop 1 ((Option.some FieldType.boolean)) 1 0 0 [.ref (ad 0 r b)] h (qI h (fun x => x = if fStop P r b then 1 else 0)) (qN) := by
  refine g_enter (lv := [(0, .ref (ad 0 r b))]) G.2 (by decide +kernel) (Nat.le_of_ble_eq_true rfl) rfl (fun Γ X Nt E RM => ?_)
  refine g_aload_n X dX0_isStop_0 rfl ?_
  refine gp_geti (j := 0) X hR hl cl_X0 lk_X0_18 rfl (by decide) rfl rfl dX0_isStop_1 (fun x1 e1 => ?_)
  refine g_bipush (v := 115) X dX0_isStop_4 (by decide) ?_
  refine g_icmp_eq 18 X dX0_isStop_6 (by decide) (fun c6 => ?_) (fun c6 => ?_)
  · skip
    refine g_iconst (v := 1) X dX0_isStop_18 (by decide) ?_
    refine g_goto 23 X dX0_isStop_19 (by decide) ?_
    refine g_ireturn X E (by decide) dX0_isStop_23 (by decide) (by decide) ?_
    exact ⟨_, rfl, by simp_all [fStop], rfl⟩
  · skip
    refine g_aload_n X dX0_isStop_9 rfl ?_
    refine gp_geti (j := 0) X hR hl cl_X0 lk_X0_18 rfl (by decide) rfl rfl dX0_isStop_10 (fun x10 e10 => ?_)
    refine g_bipush (v := 98) X dX0_isStop_13 (by decide) ?_
    refine g_icmp_ne 22 X dX0_isStop_15 (by decide) (fun c15 => ?_) (fun c15 => ?_)
    · skip
      refine g_iconst (v := 0) X dX0_isStop_22 (by decide) ?_
      refine g_ireturn X E (by decide) dX0_isStop_23 (by decide) (by decide) ?_
      exact ⟨_, rfl, by simp_all [fStop], rfl⟩
    · skip
      refine g_iconst (v := 1) X dX0_isStop_18 (by decide) ?_
      refine g_goto 23 X dX0_isStop_19 (by decide) ?_
      refine g_ireturn X E (by decide) dX0_isStop_23 (by decide) (by decide) ?_
      exact ⟨_, rfl, by simp_all [fStop], rfl⟩
set_option maxHeartbeats 4000000 in
set_option maxRecDepth 100000 in
theorem c_X0_energyBehind {Z : gEnv} {ad : gAd} {P : gP} {h : gH} (G : gG Z) (hR : gRep Z ad P h) {r b : Nat} (hl : gLive P 0 r b) {e w : Int32} : gMet Z yX0_energyBehind cX0_energyBehind 4 ((Option.some FieldType.int)) 2 0 0 [.ref (ad 0 r b), .int e, .int w] h (qI h (fun x => x = fEB P r b e w)) (qN) := by
  refine g_enter (lv := [(0, .ref (ad 0 r b)), (1, .int e), (2, .int w)]) G.2 (by decide +kernel) (Nat.le_of_ble_eq_true rfl) rfl (fun Γ X Nt E RM => ?_)
  refine g_aload_n X dX0_energyBehind_0 rfl ?_
  refine gp_V X RM lm_X0_31 (c_X0_isStop G hR hl) cl_X0 hR hl rfl rfl rfl (Nat.le_of_ble_eq_true rfl) (by decide) (by decide) dX0_energyBehind_1 (fun v hz q => ?_) (fun _ _ q => q.elim)
  obtain ⟨x1, rfl, e1, rfl⟩ := q
  refine GJ.seq (st' := [.int x1]) rfl ?_
  refine g_if_eq 9 X dX0_energyBehind_4 (by decide) (fun c4 => ?_) (fun c4 => ?_)
  · skip
    refine g_aload_n X dX0_energyBehind_9 rfl ?_
    refine gp_geti (j := 0) X hR hl cl_X0 lk_X0_18 rfl (by decide) rfl rfl dX0_energyBehind_10 (fun x10 e10 => ?_)
    refine g_bipush (v := 108) X dX0_energyBehind_13 (by decide) ?_
    refine g_icmp_ne 20 X dX0_energyBehind_15 (by decide) (fun c15 => ?_) (fun c15 => ?_)
    · skip
      refine g_aload_n X dX0_energyBehind_20 rfl ?_
      refine gp_geti (j := 1) X hR hl cl_X0 lk_X0_21 rfl (by decide) rfl rfl dX0_energyBehind_21 (fun x21 e21 => ?_)
      refine g_iconst (v := 3) X dX0_energyBehind_24 (by decide) ?_
      refine g_iadd X dX0_energyBehind_25 (fun x25 e25 => ?_)
      refine g_iconst (v := 4) X dX0_energyBehind_26 (by decide) ?_
      refine g_idiv X dX0_energyBehind_27 (by decide) (fun x27 e27 => ?_)
      refine g_istore_n (lv' := [(3, .int x27), (0, .ref (ad 0 r b)), (1, .int e), (2, .int w)]) X dX0_energyBehind_28 (by decide) rfl ?_
      refine g_iload_n X dX0_energyBehind_29 rfl ?_
      refine g_iload_n X dX0_energyBehind_30 rfl ?_
      refine g_bipush (v := 15) X dX0_energyBehind_31 (by decide) ?_
      refine g_icmp_le 42 X dX0_energyBehind_33 (by decide) (fun c33 => ?_) (fun c33 => ?_)
      · skip
        refine g_iload_n X dX0_energyBehind_42 rfl ?_
        refine g_isub X dX0_energyBehind_43 (fun x43 e43 => ?_)
        refine g_iconst (v := 2) X dX0_energyBehind_44 (by decide) ?_
        refine g_aload_n X dX0_energyBehind_45 rfl ?_
        refine gp_geti (j := 2) X hR hl cl_X0 lk_X0_25 rfl (by decide) rfl rfl dX0_energyBehind_46 (fun x46 e46 => ?_)
        refine g_imul X dX0_energyBehind_49 (fun x49 e49 => ?_)
        refine g_isub X dX0_energyBehind_50 (fun x50 e50 => ?_)
        refine g_ireturn X E rfl dX0_energyBehind_51 (by decide) (by decide) ?_
        refine ⟨_, rfl, ?_, rfl⟩
        subst_vars
        simp_all [fEB, bz, -Int32.not_lt]
      · skip
        refine g_iconst (v := 2) X dX0_energyBehind_36 (by decide) ?_
        refine g_iload_n X dX0_energyBehind_37 rfl ?_
        refine g_imul X dX0_energyBehind_38 (fun x38 e38 => ?_)
        refine g_goto 43 X dX0_energyBehind_39 (by decide) ?_
        refine g_isub X dX0_energyBehind_43 (fun x43 e43 => ?_)
        refine g_iconst (v := 2) X dX0_energyBehind_44 (by decide) ?_
        refine g_aload_n X dX0_energyBehind_45 rfl ?_
        refine gp_geti (j := 2) X hR hl cl_X0 lk_X0_25 rfl (by decide) rfl rfl dX0_energyBehind_46 (fun x46 e46 => ?_)
        refine g_imul X dX0_energyBehind_49 (fun x49 e49 => ?_)
        refine g_isub X dX0_energyBehind_50 (fun x50 e50 => ?_)
        refine g_ireturn X E rfl dX0_energyBehind_51 (by decide) (by decide) ?_
        refine ⟨_, rfl, ?_, rfl⟩
        subst_vars
        simp_all [fEB, bz, -Int32.not_lt]
    · skip
      refine g_iconst (v := 5) X dX0_energyBehind_18 (by decide) ?_
      refine g_ireturn X E rfl dX0_energyBehind_19 (by decide) (by decide) ?_
      refine ⟨_, rfl, ?_, rfl⟩
      subst_vars
      simp_all [fEB, bz, -Int32.not_lt]
  · skip
    refine g_iconst (v := 3) X dX0_energyBehind_7 (by decide) ?_
    refine g_ireturn X E rfl dX0_energyBehind_8 (by decide) (by decide) ?_
    refine ⟨_, rfl, ?_, rfl⟩
    subst_vars
    simp_all [fEB, bz, -Int32.not_lt]
set_option maxHeartbeats 4000000 in
set_option maxRecDepth 100000 in
theorem c_X0_forceFor {Z : gEnv} {ad : gAd} {P : gP} {h : gH} (G : gG Z) (hR : gRep Z ad P h) {r b : Nat} (hl : gLive P 0 r b) {e : Int32} : gMet Z yX0_forceFor cX0_forceFor 2 ((Option.some FieldType.int)) 2 0 0 [.ref (ad 0 r b), .int e] h (qI h (fun x => x = fFF P r b e)) (qN) := by
  refine g_enter (lv := [(0, .ref (ad 0 r b)), (1, .int e)]) G.2 (by decide +kernel) (Nat.le_of_ble_eq_true rfl) rfl (fun Γ X Nt E RM => ?_)
  refine g_aload_n X dX0_forceFor_0 rfl ?_
  refine gp_V X RM lm_X0_31 (c_X0_isStop G hR hl) cl_X0 hR hl rfl rfl rfl (Nat.le_of_ble_eq_true rfl) (by decide) (by decide) dX0_forceFor_1 (fun v hz q => ?_) (fun _ _ q => q.elim)
  obtain ⟨x1, rfl, e1, rfl⟩ := q
  refine GJ.seq (st' := [.int x1]) rfl ?_
  refine g_if_ne 15 X dX0_forceFor_4 (by decide) (fun c4 => ?_) (fun c4 => ?_)
  · skip
    refine g_iconst (v := 0) X dX0_forceFor_15 (by decide) ?_
    refine g_goto 32 X dX0_forceFor_16 (by decide) ?_
    refine g_ireturn X E rfl dX0_forceFor_32 (by decide) (by decide) ?_
    refine ⟨_, rfl, ?_, rfl⟩
    subst_vars
    simp_all [fFF, bz, -Int32.not_lt]
  · skip
    refine g_aload_n X dX0_forceFor_7 rfl ?_
    refine gp_geti (j := 1) X hR hl cl_X0 lk_X0_21 rfl (by decide) rfl rfl dX0_forceFor_8 (fun x8 e8 => ?_)
    refine g_iconst (v := 1) X dX0_forceFor_11 (by decide) ?_
    refine g_icmp_ge 19 X dX0_forceFor_12 (by decide) (fun c12 => ?_) (fun c12 => ?_)
    · skip
      refine g_aload_n X dX0_forceFor_19 rfl ?_
      refine gp_geti (j := 3) X hR hl cl_X0 lk_X0_28 rfl (by decide) rfl rfl dX0_forceFor_20 (fun x20 e20 => ?_)
      refine g_iload_n X dX0_forceFor_23 rfl ?_
      refine g_imul X dX0_forceFor_24 (fun x24 e24 => ?_)
      refine g_aload_n X dX0_forceFor_25 rfl ?_
      refine gp_geti (j := 1) X hR hl cl_X0 lk_X0_21 rfl (by decide) rfl rfl dX0_forceFor_26 (fun x26 e26 => ?_)
      refine g_idiv X dX0_forceFor_29 (fun hz => c12 (by rw [e8, ← e26, hz]; decide)) (fun x29 e29 => ?_)
      refine g_iconst (v := 1) X dX0_forceFor_30 (by decide) ?_
      refine g_iadd X dX0_forceFor_31 (fun x31 e31 => ?_)
      refine g_ireturn X E rfl dX0_forceFor_32 (by decide) (by decide) ?_
      refine ⟨_, rfl, ?_, rfl⟩
      subst_vars
      simp_all [fFF, bz, -Int32.not_lt]
    · skip
      refine g_iconst (v := 0) X dX0_forceFor_15 (by decide) ?_
      refine g_goto 32 X dX0_forceFor_16 (by decide) ?_
      refine g_ireturn X E rfl dX0_forceFor_32 (by decide) (by decide) ?_
      refine ⟨_, rfl, ?_, rfl⟩
      subst_vars
      simp_all [fFF, bz, -Int32.not_lt]
set_option maxHeartbeats 4000000 in
set_option maxRecDepth 100000 in
theorem c_X0_sensor {Z : gEnv} {ad : gAd} {P : gP} {h : gH} (G : gG Z) (hR : gRep Z ad P h) {r b : Nat} (hl : gLive P 0 r b) (hc : gChr (pI P 0 r b 4) ∧ gChr (pI P 0 r b 5)) {p : Int32} : gMet Z yX0_sensor cX0_sensor 2 ((Option.some FieldType.char)) 1 0 0 [.ref (ad 0 r b), .int p] h (qI h (fun x => x = fSens P r b p)) (qN) := by
  refine g_enter (lv := [(0, .ref (ad 0 r b)), (1, .int p)]) G.2 (by decide +kernel) (Nat.le_of_ble_eq_true rfl) rfl (fun Γ X Nt E RM => ?_)
  refine g_iload_n X dX0_sensor_0 rfl ?_
  refine g_if_ne 11 X dX0_sensor_1 (by decide) (fun c1 => ?_) (fun c1 => ?_)
  · skip
    refine g_aload_n X dX0_sensor_11 rfl ?_
    refine gp_geti (j := 5) X hR hl cl_X0 lk_X0_15 rfl (by decide) rfl rfl dX0_sensor_12 (fun x12 e12 => ?_)
    refine g_ireturn X E (by rw [e12]; exact hc.2.1) dX0_sensor_15 (by decide) (by decide) ?_
    exact ⟨_, rfl, by simp_all [fSens], rfl⟩
  · skip
    refine g_aload_n X dX0_sensor_4 rfl ?_
    refine gp_geti (j := 4) X hR hl cl_X0 lk_X0_9 rfl (by decide) rfl rfl dX0_sensor_5 (fun x5 e5 => ?_)
    refine g_goto 15 X dX0_sensor_8 (by decide) ?_
    refine g_ireturn X E (by rw [e5]; exact hc.1.1) dX0_sensor_15 (by decide) (by decide) ?_
    exact ⟨_, rfl, by simp_all [fSens], rfl⟩
set_option maxHeartbeats 4000000 in
set_option maxRecDepth 100000 in
theorem c_X0_tellSensor {Z : gEnv} {ad : gAd} {P : gP} {h : gH} (G : gG Z) (hR : gRep Z ad P h) {r b : Nat} (hl : gLive P 0 r b) {p w : Int32} (hw : gChr w) : gMet Z yX0_tellSensor cX0_tellSensor 3 ((Option.none : Option FieldType)) 1 0 0 [.ref (ad 0 r b), .int p, .int w] h (qM (fun h2 => ∃ P2, gRep Z ad P2 h2 ∧ P2 = if p = 0 then uI P 0 r b 4 w else uI P 0 r b 5 w)) (qN) := by
  refine g_enter (lv := [(0, .ref (ad 0 r b)), (1, .int p), (2, .int w)]) G.2 (by decide +kernel) (Nat.le_of_ble_eq_true rfl) rfl (fun Γ X Nt E RM => ?_)
  refine g_iload_n X dX0_tellSensor_0 rfl ?_
  refine g_if_ne 12 X dX0_tellSensor_1 (by decide) (fun c1 => ?_) (fun c1 => ?_)
  · skip
    refine g_aload_n X dX0_tellSensor_12 rfl ?_
    refine g_iload_n X dX0_tellSensor_13 rfl ?_
    refine gp_puti (j := 5) X hR hl cl_X0 lk_X0_15 rfl (by decide) rfl (by decide) rfl hw.1 hw.2 dX0_tellSensor_14 (fun h hR => ?_)
    refine g_return X E dX0_tellSensor_17 (by decide) (by decide) ?_
    exact ⟨rfl, _, hR, by simp_all⟩
  · skip
    refine g_aload_n X dX0_tellSensor_4 rfl ?_
    refine g_iload_n X dX0_tellSensor_5 rfl ?_
    refine gp_puti (j := 4) X hR hl cl_X0 lk_X0_9 rfl (by decide) rfl (by decide) rfl hw.1 hw.2 dX0_tellSensor_6 (fun h hR => ?_)
    refine g_goto 17 X dX0_tellSensor_9 (by decide) ?_
    refine g_return X E dX0_tellSensor_17 (by decide) (by decide) ?_
    exact ⟨rfl, _, hR, by simp_all⟩
set_option maxHeartbeats 4000000 in
set_option maxRecDepth 100000 in
theorem c_X0_isSeenBy {Z : gEnv} {ad : gAd} {P : gP} {h : gH} (G : gG Z) (hR : gRep Z ad P h) {r b : Nat} (hl : gLive P 0 r b) (hc : gChr (pI P 0 r b 4) ∧ gChr (pI P 0 r b 5)) {p t : Int32} : gMet Z yX0_isSeenBy cX0_isSeenBy 4 ((Option.some FieldType.boolean)) 2 0 0 [.ref (ad 0 r b), .int p, .int t] h (qI h (fun x => x = fSeen P r b p t)) (qN) := by
  refine g_enter (lv := [(0, .ref (ad 0 r b)), (1, .int p), (2, .int t)]) G.2 (by decide +kernel) (Nat.le_of_ble_eq_true rfl) rfl (fun Γ X Nt E RM => ?_)
  refine g_aload_n X dX0_isSeenBy_0 rfl ?_
  refine g_iload_n X dX0_isSeenBy_1 rfl ?_
  refine gp_V X RM lm_X0_35 (c_X0_sensor G hR hl hc) cl_X0 hR hl rfl rfl rfl (Nat.le_of_ble_eq_true rfl) (by decide) (by decide) dX0_isSeenBy_2 (fun v hz q => ?_) (fun _ _ q => q.elim)
  obtain ⟨x2, rfl, e2, rfl⟩ := q
  refine GJ.seq (st' := [.int x2]) rfl ?_
  refine g_istore_n (lv' := [(3, .int x2), (0, .ref (ad 0 r b)), (1, .int p), (2, .int t)]) X dX0_isSeenBy_5 (by decide) rfl ?_
  refine g_iload_n X dX0_isSeenBy_6 rfl ?_
  refine g_bipush (v := 97) X dX0_isSeenBy_7 (by decide) ?_
  refine g_icmp_eq 22 X dX0_isSeenBy_9 (by decide) (fun c9 => ?_) (fun c9 => ?_)
  · skip
    refine g_iconst (v := 1) X dX0_isSeenBy_22 (by decide) ?_
    refine g_goto 27 X dX0_isSeenBy_23 (by decide) ?_
    refine g_ireturn X E (by decide) dX0_isSeenBy_27 (by decide) (by decide) ?_
    exact ⟨_, rfl, by simp_all [fSeen], rfl⟩
  · skip
    refine g_iload_n X dX0_isSeenBy_12 rfl ?_
    refine g_bipush (v := 116) X dX0_isSeenBy_13 (by decide) ?_
    refine g_icmp_ne 26 X dX0_isSeenBy_15 (by decide) (fun c15 => ?_) (fun c15 => ?_)
    · skip
      refine g_iconst (v := 0) X dX0_isSeenBy_26 (by decide) ?_
      refine g_ireturn X E (by decide) dX0_isSeenBy_27 (by decide) (by decide) ?_
      exact ⟨_, rfl, by simp_all [fSeen], rfl⟩
    · skip
      refine g_iload_n X dX0_isSeenBy_18 rfl ?_
      refine g_if_eq 26 X dX0_isSeenBy_19 (by decide) (fun c19 => ?_) (fun c19 => ?_)
      · skip
        refine g_iconst (v := 0) X dX0_isSeenBy_26 (by decide) ?_
        refine g_ireturn X E (by decide) dX0_isSeenBy_27 (by decide) (by decide) ?_
        exact ⟨_, rfl, by simp_all [fSeen], rfl⟩
      · skip
        refine g_iconst (v := 1) X dX0_isSeenBy_22 (by decide) ?_
        refine g_goto 27 X dX0_isSeenBy_23 (by decide) ?_
        refine g_ireturn X E (by decide) dX0_isSeenBy_27 (by decide) (by decide) ?_
        exact ⟨_, rfl, by simp_all [fSeen], rfl⟩
end GBLOCK
