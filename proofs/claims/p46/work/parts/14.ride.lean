/-! rides: words that are only asked -/
section GRIDE
def fIn (P : gP) (r : Nat) (x : Int32) : Nat → Nat → Option Nat
  | 0, _ => none
  | m + 1, k => if k < pnT P r ∧ pI P 5 r k 3 = x then some k else fIn P r x m (k + 1)
theorem fIn_some {P : gP} {r : Nat} {x : Int32} : ∀ {m k i : Nat}, fIn P r x m k = some i → i < pnT P r ∧ pI P 5 r i 3 = x ∧ k ≤ i
  | 0, k, i, h => by cases h
  | m + 1, k, i, h => by
    unfold fIn at h
    split at h
    next hh => cases h; exact ⟨hh.1, hh.2, Nat.le_refl _⟩
    next hh => have := fIn_some h; exact ⟨this.1, this.2.1, by omega⟩
theorem fIn_none {P : gP} {r : Nat} {x : Int32} : ∀ {m k : Nat}, fIn P r x m k = none → ∀ i, k ≤ i → i < k + m → i < pnT P r → pI P 5 r i 3 ≠ x
  | 0, k, h, i, h1, h2, h3 => by omega
  | m + 1, k, h, i, h1, h2, h3 => by
    unfold fIn at h
    split at h
    next hh => cases h
    next hh =>
      rcases Nat.eq_or_lt_of_le h1 with q | q
      · subst q; exact fun e => hh ⟨h3, e⟩
      · exact fIn_none h i (by omega) (by omega) h3
/-- the train that stands in the station -/
def fSt (P : gP) (r : Nat) : Option Nat := match fIn P r 0 4 0 with
  | some i => if pI P 5 r i 5 = 115 then some i else none
  | none => none
def fBW (P : gP) (r : Nat) : Nat → Nat → Int32 → Int32
  | 0, _, a => a
  | m + 1, k, a => fBW P r m (k + 1) (if k < pnT P r then a ||| (1 <<< (pI P 5 r k 3 &&& 31)) else a)
def fSB (P : gP) (r : Nat) (p : Int32) : Nat → Nat → Int32 → Int32
  | 0, _, a => a
  | m + 1, k, a => fSB P r p m (k + 1) (if fSeen P r k p (if fBW P r 4 0 0 &&& (1 <<< (nI k &&& 31)) = 0 then 0 else 1) = 0 then a else a ||| (1 <<< (nI k &&& 31)))
def gChrs (P : gP) (r : Nat) : Prop := ∀ b, b < pnB P r → gChr (pI P 0 r b 4) ∧ gChr (pI P 0 r b 5)
set_option maxHeartbeats 4000000 in
set_option maxRecDepth 100000 in
theorem c_X3_trainOrNull {Z : gEnv} {ad : gAd} {P : gP} {h : gH} (G : gG Z) (hR : gRep Z ad P h) {r : Nat} (hl : gLive P 3 r 0) (hT4 : pnT P r ≤ 4) {x : Int32} : gMet Z yX3_trainOrNull cX3_trainOrNull 2 ((Option.some (FieldType.object "Coasterland$Train"))) 1 0 0 [.ref (ad 3 r 0), .int x] h (qR h (fun w => (∃ j, x = nI j ∧ j < pnT P r ∧ w = .ref (ad 5 r j)) ∨ (w = .null ∧ ∀ i, i < pnT P r → x ≠ nI i))) (qN) := by
  refine g_enter (lv := [(0, .ref (ad 3 r 0)), (1, .int x)]) G.2 (by decide +kernel) (Nat.le_of_ble_eq_true rfl) rfl (fun Γ X Nt E RM => ?_)
  refine g_iload_n X dX3_trainOrNull_0 rfl ?_
  refine g_if_lt 22 X dX3_trainOrNull_1 (by decide) (fun c1 => ?_) (fun c1 => ?_)
  · skip
    refine g_null X dX3_trainOrNull_22 ?_
    refine g_areturn X E (Or.inl rfl) dX3_trainOrNull_23 (by decide) (by decide) ?_
    exact ⟨_, rfl, Or.inr ⟨rfl, fun i hi => by first | exact g_n3 hxj hj (by decide) h18 hi hT4 | exact g_n2 c10 rfl (by decide) hi hT4 | exact g_n1 c1 hi (Nat.le_trans hT4 (by decide))⟩, rfl⟩
  · skip
    refine g_iload_n X dX3_trainOrNull_4 rfl ?_
    refine g_aload_n X dX3_trainOrNull_5 rfl ?_
    refine gp_get (j := 4) (v := .ref (ad 11 r 0)) X hR hl cl_X3 lk_X3_20 rfl (by decide) rfl rfl dX3_trainOrNull_6 ?_
    refine gp_alen (v := 4) X hR hl G.t4 rfl rfl dX3_trainOrNull_9 ?_
    refine g_icmp_ge 22 X dX3_trainOrNull_10 (by decide) (fun c10 => ?_) (fun c10 => ?_)
    · skip
      refine g_null X dX3_trainOrNull_22 ?_
      refine g_areturn X E (Or.inl rfl) dX3_trainOrNull_23 (by decide) (by decide) ?_
      exact ⟨_, rfl, Or.inr ⟨rfl, fun i hi => by first | exact g_n3 hxj hj (by decide) h18 hi hT4 | exact g_n2 c10 rfl (by decide) hi hT4 | exact g_n1 c1 hi (Nat.le_trans hT4 (by decide))⟩, rfl⟩
    · skip
      obtain ⟨j, hj, hxj⟩ := g_ix c1 c10 (N := 4) (by decide)
      refine g_aload_n X dX3_trainOrNull_13 rfl ?_
      refine gp_get (j := 4) (v := .ref (ad 11 r 0)) X hR hl cl_X3 lk_X3_20 rfl (by decide) rfl rfl dX3_trainOrNull_14 ?_
      refine g_iload_n X dX3_trainOrNull_17 rfl ?_
      refine gp_aald_if (j := j) X hR hl G.t4 rfl hxj hj (by decide) dX3_trainOrNull_18 (fun h18 => ?_) (fun h18 => ?_)
      · skip
        have hl18 : gLive P 5 r j := ⟨(hl).1, h18⟩
        refine g_goto 23 X dX3_trainOrNull_19 (by decide) ?_
        refine g_areturn X E (Or.inr ⟨_, rfl⟩) dX3_trainOrNull_23 (by decide) (by decide) ?_
        exact ⟨_, rfl, Or.inl ⟨j, hxj, h18, rfl⟩, rfl⟩
      · skip
        refine g_goto 23 X dX3_trainOrNull_19 (by decide) ?_
        refine g_areturn X E (Or.inl rfl) dX3_trainOrNull_23 (by decide) (by decide) ?_
        exact ⟨_, rfl, Or.inr ⟨rfl, fun i hi => by first | exact g_n3 hxj hj (by decide) h18 hi hT4 | exact g_n2 c10 rfl (by decide) hi hT4 | exact g_n1 c1 hi (Nat.le_trans hT4 (by decide))⟩, rfl⟩
set_option maxHeartbeats 4000000 in
set_option maxRecDepth 100000 in
theorem c_X3_lineOrNull {Z : gEnv} {ad : gAd} {P : gP} {h : gH} (G : gG Z) (hR : gRep Z ad P h) {r : Nat} (hl : gLive P 3 r 0) {x : Int32} : gMet Z yX3_lineOrNull cX3_lineOrNull 2 ((Option.some (FieldType.object "Coasterland$Line"))) 1 0 0 [.ref (ad 3 r 0), .int x] h (qR h (fun w => (∃ q, q < 3 ∧ w = .ref (ad 2 r q) ∧ (x = 108 ∧ q = 0 ∨ x = 115 ∧ q = 1 ∨ x = 114 ∧ q = 2)) ∨ (w = .null ∧ ¬ x = 108 ∧ ¬ x = 115 ∧ ¬ x = 114))) (qN) := by
  refine g_enter (lv := [(0, .ref (ad 3 r 0)), (1, .int x)]) G.2 (by decide +kernel) (Nat.le_of_ble_eq_true rfl) rfl (fun Γ X Nt E RM => ?_)
  refine g_iload_n X dX3_lineOrNull_0 rfl ?_
  refine g_bipush (v := 108) X dX3_lineOrNull_1 (by decide) ?_
  refine g_icmp_ne 11 X dX3_lineOrNull_3 (by decide) (fun c3 => ?_) (fun c3 => ?_)
  · skip
    refine g_iload_n X dX3_lineOrNull_11 rfl ?_
    refine g_bipush (v := 115) X dX3_lineOrNull_12 (by decide) ?_
    refine g_icmp_ne 22 X dX3_lineOrNull_14 (by decide) (fun c14 => ?_) (fun c14 => ?_)
    · skip
      refine g_iload_n X dX3_lineOrNull_22 rfl ?_
      refine g_bipush (v := 114) X dX3_lineOrNull_23 (by decide) ?_
      refine g_icmp_ne 35 X dX3_lineOrNull_25 (by decide) (fun c25 => ?_) (fun c25 => ?_)
      · skip
        refine g_null X dX3_lineOrNull_35 ?_
        refine g_areturn X E (Or.inl rfl) dX3_lineOrNull_36 (by decide) (by decide) ?_
        exact ⟨_, rfl, Or.inr ⟨rfl, c3, c14, c25⟩, rfl⟩
      · skip
        refine g_aload_n X dX3_lineOrNull_28 rfl ?_
        refine gp_get (j := 8) (v := .ref (ad 2 r 2)) X hR hl cl_X3 lk_X3_34 rfl (by decide) rfl rfl dX3_lineOrNull_29 ?_
        refine g_goto 36 X dX3_lineOrNull_32 (by decide) ?_
        refine g_areturn X E (Or.inr ⟨_, rfl⟩) dX3_lineOrNull_36 (by decide) (by decide) ?_
        exact ⟨_, rfl, Or.inl ⟨_, by decide, rfl, by simp_all⟩, rfl⟩
    · skip
      refine g_aload_n X dX3_lineOrNull_17 rfl ?_
      refine gp_get (j := 7) (v := .ref (ad 2 r 1)) X hR hl cl_X3 lk_X3_31 rfl (by decide) rfl rfl dX3_lineOrNull_18 ?_
      refine g_areturn X E (Or.inr ⟨_, rfl⟩) dX3_lineOrNull_21 (by decide) (by decide) ?_
      exact ⟨_, rfl, Or.inl ⟨_, by decide, rfl, by simp_all⟩, rfl⟩
  · skip
    refine g_aload_n X dX3_lineOrNull_6 rfl ?_
    refine gp_get (j := 6) (v := .ref (ad 2 r 0)) X hR hl cl_X3 lk_X3_27 rfl (by decide) rfl rfl dX3_lineOrNull_7 ?_
    refine g_areturn X E (Or.inr ⟨_, rfl⟩) dX3_lineOrNull_10 (by decide) (by decide) ?_
    exact ⟨_, rfl, Or.inl ⟨_, by decide, rfl, by simp_all⟩, rfl⟩
set_option maxHeartbeats 4000000 in
set_option maxRecDepth 100000 in
theorem c_X3_trainIn {Z : gEnv} {ad : gAd} {P : gP} {h : gH} (G : gG Z) (hR : gRep Z ad P h) {r : Nat} (hl : gLive P 3 r 0) {x : Int32} : gMet Z yX3_trainIn cX3_trainIn 6 ((Option.some (FieldType.object "Coasterland$Train"))) 1 0 0 [.ref (ad 3 r 0), .int x] h (qR h (fun w => w = va_rf ((fIn P r x 4 0).map (fun i => ad 5 r i)))) (qN) := by
  refine g_enter (lv := [(0, .ref (ad 3 r 0)), (1, .int x)]) G.2 (by decide +kernel) (Nat.le_of_ble_eq_true rfl) rfl (fun Γ X Nt E RM => ?_)
  have L : ∀ (m : Nat) (k : Nat) (x4 : Int32)  (hm : m + k = 4) (hi : x4 = nI k) (hf : fIn P r x m k = fIn P r x 4 0), GJ Z Γ h 0 0 11 [(4, .int x4), (3, .int 4), (2, .ref (ad 11 r 0)), (1, .int x), (0, .ref (ad 3 r 0))] [] := by
    intro m
    induction m with
    | zero =>
      intro k x4  hm hi hf
      refine g_iload X dX3_trainIn_11 rfl ?_
      refine g_iload_n X dX3_trainIn_13 rfl ?_
      refine g_icmp_ge 46 X dX3_trainIn_14 (by decide) (fun c14 => ?_) (fun c14 => ?_)
      · skip
        refine g_null X dX3_trainIn_46 ?_
        refine g_areturn X E (Or.inl rfl) dX3_trainIn_47 (by decide) (by decide) ?_
        exact ⟨_, rfl, by rw [← hf]; rfl, rfl⟩
      · skip
        exact absurd c14 (by rw [hi]; exact nI_nlt (b := 4) (by omega) (by omega))
    | succ m ih =>
      intro k x4  hm hi hf
      refine g_iload X dX3_trainIn_11 rfl ?_
      refine g_iload_n X dX3_trainIn_13 rfl ?_
      refine g_icmp_ge 46 X dX3_trainIn_14 (by decide) (fun c14 => ?_) (fun c14 => ?_)
      · skip
        exact absurd (by rw [hi]; exact nI_lt (b := 4) (by omega) (by omega)) c14
      · skip
        refine g_aload_n X dX3_trainIn_17 rfl ?_
        refine g_iload X dX3_trainIn_18 rfl ?_
        refine gp_aald_if (j := k) X hR hl G.t4 rfl hi (by omega) (by decide) dX3_trainIn_20 (fun h20 => ?_) (fun h20 => ?_)
        · skip
          have hl20 : gLive P 5 r k := ⟨(hl).1, h20⟩
          refine g_astore (lv' := [(5, .ref (ad 5 r k)), (4, .int x4), (3, .int 4), (2, .ref (ad 11 r 0)), (1, .int x), (0, .ref (ad 3 r 0))]) X dX3_trainIn_21 (by decide) rfl ?_
          refine g_aload X dX3_trainIn_23 rfl ?_
          refine g_ifnull X dX3_trainIn_25 ?_
          refine g_aload X dX3_trainIn_28 rfl ?_
          refine gp_geti (j := 3) X hR hl20 cl_X5 lk_X3_56 rfl (by decide) rfl rfl dX3_trainIn_30 (fun x30 e30 => ?_)
          refine g_iload_n X dX3_trainIn_33 rfl ?_
          refine g_icmp_ne 40 X dX3_trainIn_34 (by decide) (fun c34 => ?_) (fun c34 => ?_)
          · skip
            refine gp_iinc 1 X dX3_trainIn_40 rfl (by decide) (fun x40 e40 => ?_)
            refine GJ.leq (lv' := [(4, .int x40), (5, .ref (ad 5 r k)), (3, .int 4), (2, .ref (ad 11 r 0)), (1, .int x), (0, .ref (ad 3 r 0))]) rfl ?_
            refine g_goto 11 X dX3_trainIn_43 (by decide) ?_
            refine GJ.pick [0, 2, 3, 4, 5] rfl ?_
            exact ih (k + 1) x40 (by omega) (by rw [e40, hi]; exact nI_1 k) (by rw [← hf, fIn, if_neg (fun hh => c34 (by rw [e30]; exact hh.2))])
          · skip
            refine g_aload X dX3_trainIn_37 rfl ?_
            refine g_areturn X E (Or.inr ⟨_, rfl⟩) dX3_trainIn_39 (by decide) (by decide) ?_
            exact ⟨_, rfl, by rw [← hf, fIn, if_pos ⟨h20, by rw [← e30]; exact c34⟩]; rfl, rfl⟩
        · skip
          refine g_astoreN (lv' := [(5, .null), (4, .int x4), (3, .int 4), (2, .ref (ad 11 r 0)), (1, .int x), (0, .ref (ad 3 r 0))]) X dX3_trainIn_21 (by decide) rfl ?_
          refine g_aloadN X dX3_trainIn_23 rfl ?_
          refine g_ifnullN 40 X dX3_trainIn_25 (by decide) ?_
          refine gp_iinc 1 X dX3_trainIn_40 rfl (by decide) (fun x40 e40 => ?_)
          refine GJ.leq (lv' := [(4, .int x40), (5, .null), (3, .int 4), (2, .ref (ad 11 r 0)), (1, .int x), (0, .ref (ad 3 r 0))]) rfl ?_
          refine g_goto 11 X dX3_trainIn_43 (by decide) ?_
          refine GJ.pick [0, 2, 3, 4, 5] rfl ?_
          exact ih (k + 1) x40 (by omega) (by rw [e40, hi]; exact nI_1 k) (by rw [← hf, fIn, if_neg (fun hh => h20 hh.1)])
  refine g_aload_n X dX3_trainIn_0 rfl ?_
  refine gp_get (j := 4) (v := .ref (ad 11 r 0)) X hR hl cl_X3 lk_X3_20 rfl (by decide) rfl rfl dX3_trainIn_1 ?_
  refine g_astore_n (lv' := [(2, .ref (ad 11 r 0)), (0, .ref (ad 3 r 0)), (1, .int x)]) X dX3_trainIn_4 (by decide) rfl ?_
  refine g_aload_n X dX3_trainIn_5 rfl ?_
  refine gp_alen (v := 4) X hR hl G.t4 rfl rfl dX3_trainIn_6 ?_
  refine g_istore_n (lv' := [(3, .int 4), (2, .ref (ad 11 r 0)), (0, .ref (ad 3 r 0)), (1, .int x)]) X dX3_trainIn_7 (by decide) rfl ?_
  refine g_iconst (v := 0) X dX3_trainIn_8 (by decide) ?_
  refine g_istore (lv' := [(4, .int 0), (3, .int 4), (2, .ref (ad 11 r 0)), (0, .ref (ad 3 r 0)), (1, .int x)]) X dX3_trainIn_9 (by decide) rfl ?_
  refine GJ.pick [0, 1, 2, 4, 3] rfl ?_
  exact L 4 0 0 rfl rfl rfl
set_option maxHeartbeats 4000000 in
set_option maxRecDepth 100000 in
theorem c_X3_trainInStation {Z : gEnv} {ad : gAd} {P : gP} {h : gH} (G : gG Z) (hR : gRep Z ad P h) {r : Nat} (hl : gLive P 3 r 0) : gMet Z yX3_trainInStation cX3_trainInStation 2 ((Option.some (FieldType.object "Coasterland$Train"))) 2 0 0 [.ref (ad 3 r 0)] h (qR h (fun w => w = va_rf ((fSt P r).map (fun i => ad 5 r i)))) (qN) := by
  refine g_enter (lv := [(0, .ref (ad 3 r 0))]) G.2 (by decide +kernel) (Nat.le_of_ble_eq_true rfl) rfl (fun Γ X Nt E RM => ?_)
  refine g_aload_n X dX3_trainInStation_0 rfl ?_
  refine g_iconst (v := 0) X dX3_trainInStation_1 (by decide) ?_
  refine gp_V X RM lm_X3_59 (c_X3_trainIn G hR hl) cl_X3 hR hl rfl rfl rfl (Nat.le_of_ble_eq_true rfl) (by decide) (by decide) dX3_trainInStation_2 (fun v hz q => ?_) (fun _ _ q => q.elim)
  obtain ⟨w2, rfl, e2, rfl⟩ := q
  rcases hf2 : fIn P r 0 4 0 with _ | i2
  · skip
    rw [hf2] at e2
    subst e2
    refine GJ.seq (st' := [.null]) rfl ?_
    refine g_astore_nN (lv' := [(1, .null), (0, .ref (ad 3 r 0))]) X dX3_trainInStation_5 (by decide) rfl ?_
    refine g_aload_nN X dX3_trainInStation_6 rfl ?_
    refine g_ifnullN 23 X dX3_trainInStation_7 (by decide) ?_
    refine g_null X dX3_trainInStation_23 ?_
    refine g_areturn X E (Or.inl rfl) dX3_trainInStation_24 (by decide) (by decide) ?_
    refine ⟨_, rfl, ?_, rfl⟩
    simp_all [fSt, va_rf]
  · skip
    rw [hf2] at e2
    subst e2
    have hl2 : gLive P 5 r i2 := ⟨(hl).1, (fIn_some hf2).1⟩
    refine GJ.seq (st' := [.ref (ad 5 r i2)]) rfl ?_
    refine g_astore_n (lv' := [(1, .ref (ad 5 r i2)), (0, .ref (ad 3 r 0))]) X dX3_trainInStation_5 (by decide) rfl ?_
    refine g_aload_n X dX3_trainInStation_6 rfl ?_
    refine g_ifnull X dX3_trainInStation_7 ?_
    refine g_aload_n X dX3_trainInStation_10 rfl ?_
    refine gp_geti (j := 5) X hR hl2 cl_X5 lk_X3_63 rfl (by decide) rfl rfl dX3_trainInStation_11 (fun x11 e11 => ?_)
    refine g_bipush (v := 115) X dX3_trainInStation_14 (by decide) ?_
    refine g_icmp_ne 23 X dX3_trainInStation_16 (by decide) (fun c16 => ?_) (fun c16 => ?_)
    · skip
      refine g_null X dX3_trainInStation_23 ?_
      refine g_areturn X E (Or.inl rfl) dX3_trainInStation_24 (by decide) (by decide) ?_
      refine ⟨_, rfl, ?_, rfl⟩
      simp_all [fSt, va_rf]
    · skip
      refine g_aload_n X dX3_trainInStation_19 rfl ?_
      refine g_goto 24 X dX3_trainInStation_20 (by decide) ?_
      refine g_areturn X E (Or.inr ⟨_, rfl⟩) dX3_trainInStation_24 (by decide) (by decide) ?_
      refine ⟨_, rfl, ?_, rfl⟩
      simp_all [fSt, va_rf]
theorem fSt_some {P : gP} {r i : Nat} (h : fSt P r = some i) : i < pnT P r ∧ pI P 5 r i 3 = 0 ∧ pI P 5 r i 5 = 115 ∧ fIn P r 0 4 0 = some i := by
  unfold fSt at h
  split at h
  next j hj =>
    split at h
    next hs => cases h; exact ⟨(fIn_some hj).1, (fIn_some hj).2.1, hs, hj⟩
    next hs => cases h
  next => cases h
set_option maxHeartbeats 4000000 in
set_option maxRecDepth 100000 in
theorem c_X3_countTrains {Z : gEnv} {ad : gAd} {P : gP} {h : gH} (G : gG Z) (hR : gRep Z ad P h) {r : Nat} (hl : gLive P 3 r 0) {x : Int32} : gMet Z yX3_countTrains cX3_countTrains 7 ((Option.some FieldType.int)) 1 0 0 [.ref (ad 3 r 0), .int x] h (qI h (fun _ => True)) (qN) := by
  refine g_enter (lv := [(0, .ref (ad 3 r 0)), (1, .int x)]) G.2 (by decide +kernel) (Nat.le_of_ble_eq_true rfl) rfl (fun Γ X Nt E RM => ?_)
  have L : ∀ (m : Nat) (k : Nat) (x5 : Int32) (x2 : Int32) (hm : m + k = 4) (hi : x5 = nI k) , GJ Z Γ h 0 0 14 [(5, .int x5), (4, .int 4), (3, .ref (ad 11 r 0)), (2, .int x2), (1, .int x), (0, .ref (ad 3 r 0))] [] := by
    intro m
    induction m with
    | zero =>
      intro k x5 x2 hm hi 
      refine g_iload X dX3_countTrains_14 rfl ?_
      refine g_iload X dX3_countTrains_16 rfl ?_
      refine g_icmp_ge 50 X dX3_countTrains_18 (by decide) (fun c18 => ?_) (fun c18 => ?_)
      · skip
        refine g_iload_n X dX3_countTrains_50 rfl ?_
        refine g_ireturn X E rfl dX3_countTrains_51 (by decide) (by decide) ?_
        exact ⟨_, rfl, trivial, rfl⟩
      · skip
        exact absurd c18 (by rw [hi]; exact nI_nlt (b := 4) (by omega) (by omega))
    | succ m ih =>
      intro k x5 x2 hm hi 
      refine g_iload X dX3_countTrains_14 rfl ?_
      refine g_iload X dX3_countTrains_16 rfl ?_
      refine g_icmp_ge 50 X dX3_countTrains_18 (by decide) (fun c18 => ?_) (fun c18 => ?_)
      · skip
        exact absurd (by rw [hi]; exact nI_lt (b := 4) (by omega) (by omega)) c18
      · skip
        refine g_aload_n X dX3_countTrains_21 rfl ?_
        refine g_iload X dX3_countTrains_22 rfl ?_
        refine gp_aald_if (j := k) X hR hl G.t4 rfl hi (by omega) (by decide) dX3_countTrains_24 (fun h24 => ?_) (fun h24 => ?_)
        · skip
          have hl24 : gLive P 5 r k := ⟨(hl).1, h24⟩
          refine g_astore (lv' := [(6, .ref (ad 5 r k)), (5, .int x5), (4, .int 4), (3, .ref (ad 11 r 0)), (2, .int x2), (1, .int x), (0, .ref (ad 3 r 0))]) X dX3_countTrains_25 (by decide) rfl ?_
          refine g_aload X dX3_countTrains_27 rfl ?_
          refine g_ifnull X dX3_countTrains_29 ?_
          refine g_aload X dX3_countTrains_32 rfl ?_
          refine gp_geti (j := 5) X hR hl24 cl_X5 lk_X3_63 rfl (by decide) rfl rfl dX3_countTrains_34 (fun x34 e34 => ?_)
          refine g_iload_n X dX3_countTrains_37 rfl ?_
          refine g_icmp_ne 44 X dX3_countTrains_38 (by decide) (fun c38 => ?_) (fun c38 => ?_)
          · skip
            refine gp_iinc 1 X dX3_countTrains_44 rfl (by decide) (fun x44 e44 => ?_)
            refine GJ.leq (lv' := [(5, .int x44), (6, .ref (ad 5 r k)), (4, .int 4), (3, .ref (ad 11 r 0)), (2, .int x2), (1, .int x), (0, .ref (ad 3 r 0))]) rfl ?_
            refine g_goto 14 X dX3_countTrains_47 (by decide) ?_
            refine GJ.pick [0, 2, 3, 4, 5, 6] rfl ?_
            exact ih (k + 1) x44 x2 (by omega) (by rw [e44, hi]; exact nI_1 k)
          · skip
            refine gp_iinc 4 X dX3_countTrains_41 rfl (by decide) (fun x41 e41 => ?_)
            refine GJ.leq (lv' := [(2, .int x41), (6, .ref (ad 5 r k)), (5, .int x5), (4, .int 4), (3, .ref (ad 11 r 0)), (1, .int x), (0, .ref (ad 3 r 0))]) rfl ?_
            refine gp_iinc 2 X dX3_countTrains_44 rfl (by decide) (fun x44 e44 => ?_)
            refine GJ.leq (lv' := [(5, .int x44), (2, .int x41), (6, .ref (ad 5 r k)), (4, .int 4), (3, .ref (ad 11 r 0)), (1, .int x), (0, .ref (ad 3 r 0))]) rfl ?_
            refine g_goto 14 X dX3_countTrains_47 (by decide) ?_
            refine GJ.pick [0, 3, 4, 1, 5, 6] rfl ?_
            exact ih (k + 1) x44 x41 (by omega) (by rw [e44, hi]; exact nI_1 k)
        · skip
          refine g_astoreN (lv' := [(6, .null), (5, .int x5), (4, .int 4), (3, .ref (ad 11 r 0)), (2, .int x2), (1, .int x), (0, .ref (ad 3 r 0))]) X dX3_countTrains_25 (by decide) rfl ?_
          refine g_aloadN X dX3_countTrains_27 rfl ?_
          refine g_ifnullN 44 X dX3_countTrains_29 (by decide) ?_
          refine gp_iinc 1 X dX3_countTrains_44 rfl (by decide) (fun x44 e44 => ?_)
          refine GJ.leq (lv' := [(5, .int x44), (6, .null), (4, .int 4), (3, .ref (ad 11 r 0)), (2, .int x2), (1, .int x), (0, .ref (ad 3 r 0))]) rfl ?_
          refine g_goto 14 X dX3_countTrains_47 (by decide) ?_
          refine GJ.pick [0, 2, 3, 4, 5, 6] rfl ?_
          exact ih (k + 1) x44 x2 (by omega) (by rw [e44, hi]; exact nI_1 k)
  refine g_iconst (v := 0) X dX3_countTrains_0 (by decide) ?_
  refine g_istore_n (lv' := [(2, .int 0), (0, .ref (ad 3 r 0)), (1, .int x)]) X dX3_countTrains_1 (by decide) rfl ?_
  refine g_aload_n X dX3_countTrains_2 rfl ?_
  refine gp_get (j := 4) (v := .ref (ad 11 r 0)) X hR hl cl_X3 lk_X3_20 rfl (by decide) rfl rfl dX3_countTrains_3 ?_
  refine g_astore_n (lv' := [(3, .ref (ad 11 r 0)), (2, .int 0), (0, .ref (ad 3 r 0)), (1, .int x)]) X dX3_countTrains_6 (by decide) rfl ?_
  refine g_aload_n X dX3_countTrains_7 rfl ?_
  refine gp_alen (v := 4) X hR hl G.t4 rfl rfl dX3_countTrains_8 ?_
  refine g_istore (lv' := [(4, .int 4), (3, .ref (ad 11 r 0)), (2, .int 0), (0, .ref (ad 3 r 0)), (1, .int x)]) X dX3_countTrains_9 (by decide) rfl ?_
  refine g_iconst (v := 0) X dX3_countTrains_11 (by decide) ?_
  refine g_istore (lv' := [(5, .int 0), (4, .int 4), (3, .ref (ad 11 r 0)), (2, .int 0), (0, .ref (ad 3 r 0)), (1, .int x)]) X dX3_countTrains_12 (by decide) rfl ?_
  refine GJ.pick [0, 1, 2, 3, 5, 4] rfl ?_
  exact L 4 0 0 0 rfl rfl
set_option maxHeartbeats 4000000 in
set_option maxRecDepth 100000 in
theorem c_X3_hasStalledTrain {Z : gEnv} {ad : gAd} {P : gP} {h : gH} (G : gG Z) (hR : gRep Z ad P h) {r : Nat} (hl : gLive P 3 r 0) : gMet Z yX3_hasStalledTrain cX3_hasStalledTrain 1 ((Option.some FieldType.boolean)) 2 0 0 [.ref (ad 3 r 0)] h (qI h (fun _ => True)) (qN) := by
  refine g_enter (lv := [(0, .ref (ad 3 r 0))]) G.2 (by decide +kernel) (Nat.le_of_ble_eq_true rfl) rfl (fun Γ X Nt E RM => ?_)
  refine g_aload_n X dX3_hasStalledTrain_0 rfl ?_
  refine g_bipush (v := 120) X dX3_hasStalledTrain_1 (by decide) ?_
  refine gp_V X RM lm_X3_67 (c_X3_countTrains G hR hl) cl_X3 hR hl rfl rfl rfl (Nat.le_of_ble_eq_true rfl) (by decide) (by decide) dX3_hasStalledTrain_3 (fun v hz q => ?_) (fun _ _ q => q.elim)
  obtain ⟨x3, rfl, e3, rfl⟩ := q
  refine GJ.seq (st' := [.int x3]) rfl ?_
  refine g_if_le 13 X dX3_hasStalledTrain_6 (by decide) (fun c6 => ?_) (fun c6 => ?_)
  · skip
    refine g_iconst (v := 0) X dX3_hasStalledTrain_13 (by decide) ?_
    refine g_ireturn X E (by decide) dX3_hasStalledTrain_14 (by decide) (by decide) ?_
    exact ⟨_, rfl, trivial, rfl⟩
  · skip
    refine g_iconst (v := 1) X dX3_hasStalledTrain_9 (by decide) ?_
    refine g_goto 14 X dX3_hasStalledTrain_10 (by decide) ?_
    refine g_ireturn X E (by decide) dX3_hasStalledTrain_14 (by decide) (by decide) ?_
    exact ⟨_, rfl, trivial, rfl⟩
set_option maxHeartbeats 4000000 in
set_option maxRecDepth 100000 in
theorem c_X3_isBlockHeld {Z : gEnv} {ad : gAd} {P : gP} {h : gH} (G : gG Z) (hR : gRep Z ad P h) {r : Nat} (hl : gLive P 3 r 0) {x : Int32} (hT4 : pnT P r ≤ 4) : gMet Z yX3_isBlockHeld cX3_isBlockHeld 6 ((Option.some FieldType.boolean)) 2 0 0 [.ref (ad 3 r 0), .int x] h (qI h (fun y => (y = 1 ∧ ∃ i, i < pnT P r ∧ ¬ pI P 5 r i 6 &&& (1 <<< (x &&& 31)) = 0) ∨ (y = 0 ∧ ∀ i, i < pnT P r → pI P 5 r i 6 &&& (1 <<< (x &&& 31)) = 0))) (qN) := by
  refine g_enter (lv := [(0, .ref (ad 3 r 0)), (1, .int x)]) G.2 (by decide +kernel) (Nat.le_of_ble_eq_true rfl) rfl (fun Γ X Nt E RM => ?_)
  have L : ∀ (m : Nat) (k : Nat) (x4 : Int32)  (hm : m + k = 4) (hi : x4 = nI k) (hk : ∀ i, i < k → i < pnT P r → pI P 5 r i 6 &&& (1 <<< (x &&& 31)) = 0), GJ Z Γ h 0 0 11 [(4, .int x4), (3, .int 4), (2, .ref (ad 11 r 0)), (1, .int x), (0, .ref (ad 3 r 0))] [] := by
    intro m
    induction m with
    | zero =>
      intro k x4  hm hi hk
      refine g_iload X dX3_isBlockHeld_11 rfl ?_
      refine g_iload_n X dX3_isBlockHeld_13 rfl ?_
      refine g_icmp_ge 45 X dX3_isBlockHeld_14 (by decide) (fun c14 => ?_) (fun c14 => ?_)
      · skip
        refine g_iconst (v := 0) X dX3_isBlockHeld_45 (by decide) ?_
        refine g_ireturn X E (by decide) dX3_isBlockHeld_46 (by decide) (by decide) ?_
        exact ⟨_, rfl, Or.inr ⟨rfl, fun i h5 => hk i (by omega) h5⟩, rfl⟩
      · skip
        exact absurd c14 (by rw [hi]; exact nI_nlt (b := 4) (by omega) (by omega))
    | succ m ih =>
      intro k x4  hm hi hk
      refine g_iload X dX3_isBlockHeld_11 rfl ?_
      refine g_iload_n X dX3_isBlockHeld_13 rfl ?_
      refine g_icmp_ge 45 X dX3_isBlockHeld_14 (by decide) (fun c14 => ?_) (fun c14 => ?_)
      · skip
        exact absurd (by rw [hi]; exact nI_lt (b := 4) (by omega) (by omega)) c14
      · skip
        refine g_aload_n X dX3_isBlockHeld_17 rfl ?_
        refine g_iload X dX3_isBlockHeld_18 rfl ?_
        refine gp_aald_if (j := k) X hR hl G.t4 rfl hi (by omega) (by decide) dX3_isBlockHeld_20 (fun h20 => ?_) (fun h20 => ?_)
        · skip
          have hl20 : gLive P 5 r k := ⟨(hl).1, h20⟩
          refine g_astore (lv' := [(5, .ref (ad 5 r k)), (4, .int x4), (3, .int 4), (2, .ref (ad 11 r 0)), (1, .int x), (0, .ref (ad 3 r 0))]) X dX3_isBlockHeld_21 (by decide) rfl ?_
          refine g_aload X dX3_isBlockHeld_23 rfl ?_
          refine g_ifnull X dX3_isBlockHeld_25 ?_
          refine g_aload X dX3_isBlockHeld_28 rfl ?_
          refine g_iload_n X dX3_isBlockHeld_30 rfl ?_
          refine gp_V X RM lm_X3_71 (c_X5_holds G hR hl20) cl_X5 hR hl20 rfl rfl rfl (Nat.le_of_ble_eq_true rfl) (by decide) (by decide) dX3_isBlockHeld_31 (fun v hz q => ?_) (fun _ _ q => q.elim)
          obtain ⟨x31, rfl, e31, rfl⟩ := q
          refine GJ.seq (st' := [.int x31]) rfl ?_
          refine g_if_eq 39 X dX3_isBlockHeld_34 (by decide) (fun c34 => ?_) (fun c34 => ?_)
          · skip
            refine gp_iinc 1 X dX3_isBlockHeld_39 rfl (by decide) (fun x39 e39 => ?_)
            refine GJ.leq (lv' := [(4, .int x39), (5, .ref (ad 5 r k)), (3, .int 4), (2, .ref (ad 11 r 0)), (1, .int x), (0, .ref (ad 3 r 0))]) rfl ?_
            refine g_goto 11 X dX3_isBlockHeld_42 (by decide) ?_
            refine GJ.pick [0, 2, 3, 4, 5] rfl ?_
            exact ih (k + 1) x39 (by omega) (by rw [e39, hi]; exact nI_1 k) (fun i h4 h5 => by
              rcases Nat.lt_or_ge i k with q9 | q9
              · exact hk i q9 h5
              · have hik : i = k := by omega
                subst hik
                rw [e31] at c34
                split at c34
                next hh => exact hh
                next hh => exact absurd c34 (by decide))
          · skip
            refine g_iconst (v := 1) X dX3_isBlockHeld_37 (by decide) ?_
            refine g_ireturn X E (by decide) dX3_isBlockHeld_38 (by decide) (by decide) ?_
            exact ⟨_, rfl, Or.inl ⟨rfl, k, h20, fun e => c34 (by rw [e31, if_pos e])⟩, rfl⟩
        · skip
          refine g_astoreN (lv' := [(5, .null), (4, .int x4), (3, .int 4), (2, .ref (ad 11 r 0)), (1, .int x), (0, .ref (ad 3 r 0))]) X dX3_isBlockHeld_21 (by decide) rfl ?_
          refine g_aloadN X dX3_isBlockHeld_23 rfl ?_
          refine g_ifnullN 39 X dX3_isBlockHeld_25 (by decide) ?_
          refine gp_iinc 1 X dX3_isBlockHeld_39 rfl (by decide) (fun x39 e39 => ?_)
          refine GJ.leq (lv' := [(4, .int x39), (5, .null), (3, .int 4), (2, .ref (ad 11 r 0)), (1, .int x), (0, .ref (ad 3 r 0))]) rfl ?_
          refine g_goto 11 X dX3_isBlockHeld_42 (by decide) ?_
          refine GJ.pick [0, 2, 3, 4, 5] rfl ?_
          exact ih (k + 1) x39 (by omega) (by rw [e39, hi]; exact nI_1 k) (fun i h4 h5 => by
            rcases Nat.lt_or_ge i k with q9 | q9
            · exact hk i q9 h5
            · have hik : i = k := by omega
              subst hik
              exact absurd h5 h20)
  refine g_aload_n X dX3_isBlockHeld_0 rfl ?_
  refine gp_get (j := 4) (v := .ref (ad 11 r 0)) X hR hl cl_X3 lk_X3_20 rfl (by decide) rfl rfl dX3_isBlockHeld_1 ?_
  refine g_astore_n (lv' := [(2, .ref (ad 11 r 0)), (0, .ref (ad 3 r 0)), (1, .int x)]) X dX3_isBlockHeld_4 (by decide) rfl ?_
  refine g_aload_n X dX3_isBlockHeld_5 rfl ?_
  refine gp_alen (v := 4) X hR hl G.t4 rfl rfl dX3_isBlockHeld_6 ?_
  refine g_istore_n (lv' := [(3, .int 4), (2, .ref (ad 11 r 0)), (0, .ref (ad 3 r 0)), (1, .int x)]) X dX3_isBlockHeld_7 (by decide) rfl ?_
  refine g_iconst (v := 0) X dX3_isBlockHeld_8 (by decide) ?_
  refine g_istore (lv' := [(4, .int 0), (3, .int 4), (2, .ref (ad 11 r 0)), (0, .ref (ad 3 r 0)), (1, .int x)]) X dX3_isBlockHeld_9 (by decide) rfl ?_
  refine GJ.pick [0, 1, 2, 4, 3] rfl ?_
  exact L 4 0 0 rfl rfl (fun i hh => absurd hh (Nat.not_lt_zero i))
set_option maxHeartbeats 4000000 in
set_option maxRecDepth 100000 in
theorem c_X3_blocksWithTrains {Z : gEnv} {ad : gAd} {P : gP} {h : gH} (G : gG Z) (hR : gRep Z ad P h) {r : Nat} (hl : gLive P 3 r 0) : gMet Z yX3_blocksWithTrains cX3_blocksWithTrains 6 ((Option.some FieldType.int)) 1 0 0 [.ref (ad 3 r 0)] h (qI h (fun y => y = fBW P r 4 0 0)) (qN) := by
  refine g_enter (lv := [(0, .ref (ad 3 r 0))]) G.2 (by decide +kernel) (Nat.le_of_ble_eq_true rfl) rfl (fun Γ X Nt E RM => ?_)
  have L : ∀ (m : Nat) (k : Nat) (x4 : Int32) (x1 : Int32) (hm : m + k = 4) (hi : x4 = nI k) (hf : fBW P r m k x1 = fBW P r 4 0 0), GJ Z Γ h 0 0 13 [(4, .int x4), (3, .int 4), (2, .ref (ad 11 r 0)), (1, .int x1), (0, .ref (ad 3 r 0))] [] := by
    intro m
    induction m with
    | zero =>
      intro k x4 x1 hm hi hf
      refine g_iload X dX3_blocksWithTrains_13 rfl ?_
      refine g_iload_n X dX3_blocksWithTrains_15 rfl ?_
      refine g_icmp_ge 46 X dX3_blocksWithTrains_16 (by decide) (fun c16 => ?_) (fun c16 => ?_)
      · skip
        refine g_iload_n X dX3_blocksWithTrains_46 rfl ?_
        refine g_ireturn X E rfl dX3_blocksWithTrains_47 (by decide) (by decide) ?_
        exact ⟨_, rfl, hf, rfl⟩
      · skip
        exact absurd c16 (by rw [hi]; exact nI_nlt (b := 4) (by omega) (by omega))
    | succ m ih =>
      intro k x4 x1 hm hi hf
      refine g_iload X dX3_blocksWithTrains_13 rfl ?_
      refine g_iload_n X dX3_blocksWithTrains_15 rfl ?_
      refine g_icmp_ge 46 X dX3_blocksWithTrains_16 (by decide) (fun c16 => ?_) (fun c16 => ?_)
      · skip
        exact absurd (by rw [hi]; exact nI_lt (b := 4) (by omega) (by omega)) c16
      · skip
        refine g_aload_n X dX3_blocksWithTrains_19 rfl ?_
        refine g_iload X dX3_blocksWithTrains_20 rfl ?_
        refine gp_aald_if (j := k) X hR hl G.t4 rfl hi (by omega) (by decide) dX3_blocksWithTrains_22 (fun h22 => ?_) (fun h22 => ?_)
        · skip
          have hl22 : gLive P 5 r k := ⟨(hl).1, h22⟩
          refine g_astore (lv' := [(5, .ref (ad 5 r k)), (4, .int x4), (3, .int 4), (2, .ref (ad 11 r 0)), (1, .int x1), (0, .ref (ad 3 r 0))]) X dX3_blocksWithTrains_23 (by decide) rfl ?_
          refine g_aload X dX3_blocksWithTrains_25 rfl ?_
          refine g_ifnull X dX3_blocksWithTrains_27 ?_
          refine g_iload_n X dX3_blocksWithTrains_30 rfl ?_
          refine g_iconst (v := 1) X dX3_blocksWithTrains_31 (by decide) ?_
          refine g_aload X dX3_blocksWithTrains_32 rfl ?_
          refine gp_geti (j := 3) X hR hl22 cl_X5 lk_X3_56 rfl (by decide) rfl rfl dX3_blocksWithTrains_34 (fun x34 e34 => ?_)
          refine g_ishl X dX3_blocksWithTrains_37 (fun x37 e37 => ?_)
          refine g_ior X dX3_blocksWithTrains_38 (fun x38 e38 => ?_)
          refine g_istore_n (lv' := [(1, .int x38), (5, .ref (ad 5 r k)), (4, .int x4), (3, .int 4), (2, .ref (ad 11 r 0)), (0, .ref (ad 3 r 0))]) X dX3_blocksWithTrains_39 (by decide) rfl ?_
          refine gp_iinc 2 X dX3_blocksWithTrains_40 rfl (by decide) (fun x40 e40 => ?_)
          refine GJ.leq (lv' := [(4, .int x40), (1, .int x38), (5, .ref (ad 5 r k)), (3, .int 4), (2, .ref (ad 11 r 0)), (0, .ref (ad 3 r 0))]) rfl ?_
          refine g_goto 13 X dX3_blocksWithTrains_43 (by decide) ?_
          refine GJ.pick [0, 3, 4, 1, 5] rfl ?_
          exact ih (k + 1) x40 x38 (by omega) (by rw [e40, hi]; exact nI_1 k) (by rw [← hf, fBW, if_pos h22, e38, e37, e34])
        · skip
          refine g_astoreN (lv' := [(5, .null), (4, .int x4), (3, .int 4), (2, .ref (ad 11 r 0)), (1, .int x1), (0, .ref (ad 3 r 0))]) X dX3_blocksWithTrains_23 (by decide) rfl ?_
          refine g_aloadN X dX3_blocksWithTrains_25 rfl ?_
          refine g_ifnullN 40 X dX3_blocksWithTrains_27 (by decide) ?_
          refine gp_iinc 1 X dX3_blocksWithTrains_40 rfl (by decide) (fun x40 e40 => ?_)
          refine GJ.leq (lv' := [(4, .int x40), (5, .null), (3, .int 4), (2, .ref (ad 11 r 0)), (1, .int x1), (0, .ref (ad 3 r 0))]) rfl ?_
          refine g_goto 13 X dX3_blocksWithTrains_43 (by decide) ?_
          refine GJ.pick [0, 2, 3, 4, 5] rfl ?_
          exact ih (k + 1) x40 x1 (by omega) (by rw [e40, hi]; exact nI_1 k) (by rw [← hf, fBW, if_neg h22])
  refine g_iconst (v := 0) X dX3_blocksWithTrains_0 (by decide) ?_
  refine g_istore_n (lv' := [(1, .int 0), (0, .ref (ad 3 r 0))]) X dX3_blocksWithTrains_1 (by decide) rfl ?_
  refine g_aload_n X dX3_blocksWithTrains_2 rfl ?_
  refine gp_get (j := 4) (v := .ref (ad 11 r 0)) X hR hl cl_X3 lk_X3_20 rfl (by decide) rfl rfl dX3_blocksWithTrains_3 ?_
  refine g_astore_n (lv' := [(2, .ref (ad 11 r 0)), (1, .int 0), (0, .ref (ad 3 r 0))]) X dX3_blocksWithTrains_6 (by decide) rfl ?_
  refine g_aload_n X dX3_blocksWithTrains_7 rfl ?_
  refine gp_alen (v := 4) X hR hl G.t4 rfl rfl dX3_blocksWithTrains_8 ?_
  refine g_istore_n (lv' := [(3, .int 4), (2, .ref (ad 11 r 0)), (1, .int 0), (0, .ref (ad 3 r 0))]) X dX3_blocksWithTrains_9 (by decide) rfl ?_
  refine g_iconst (v := 0) X dX3_blocksWithTrains_10 (by decide) ?_
  refine g_istore (lv' := [(4, .int 0), (3, .int 4), (2, .ref (ad 11 r 0)), (1, .int 0), (0, .ref (ad 3 r 0))]) X dX3_blocksWithTrains_11 (by decide) rfl ?_
  exact L 4 0 0 0 rfl rfl rfl
set_option maxHeartbeats 4000000 in
set_option maxRecDepth 100000 in
theorem c_X3_blocksSeenBy {Z : gEnv} {ad : gAd} {P : gP} {h : gH} (G : gG Z) (hR : gRep Z ad P h) {r : Nat} (hl : gLive P 3 r 0) (hB : pnB P r ≤ 12) (hC : gChrs P r) {p : Int32} : gMet Z yX3_blocksSeenBy cX3_blocksSeenBy 6 ((Option.some FieldType.int)) 3 0 0 [.ref (ad 3 r 0), .int p] h (qI h (fun y => y = fSB P r p (pnB P r) 0 0)) (qN) := by
  refine g_enter (lv := [(0, .ref (ad 3 r 0)), (1, .int p)]) G.2 (by decide +kernel) (Nat.le_of_ble_eq_true rfl) rfl (fun Γ X Nt E RM => ?_)
  have L : ∀ (m : Nat) (k : Nat) (x3 x4 : Int32) (hm : m + k = pnB P r) (h4 : x4 = nI k) (hf : fSB P r p m k x3 = fSB P r p (pnB P r) 0 0) (x2 : Int32) (h2 : x2 = fBW P r 4 0 0), GJ Z Γ h 0 0 10 [(4, .int x4), (3, .int x3), (2, .int x2), (1, .int p), (0, .ref (ad 3 r 0))] [] := by
    intro m
    induction m with
    | zero =>
      intro k x3 x4 hm h4 hf x2 h2
      refine g_iload X dX3_blocksSeenBy_10 rfl ?_
      refine g_aload_n X dX3_blocksSeenBy_12 rfl ?_
      refine gp_get (j := 3) (v := .ref (ad 4 r 0)) X hR hl cl_X3 lk_X3_12 rfl (by decide) rfl rfl dX3_blocksSeenBy_13 ?_
      refine gp_geti (j := 1) X hR hl cl_X4 lk_X3_79 rfl (by decide) rfl rfl dX3_blocksSeenBy_16 (fun x16 e16 => ?_)
      refine g_icmp_ge 74 X dX3_blocksSeenBy_19 (by decide) (fun c19 => ?_) (fun c19 => ?_)
      · skip
        refine g_iload_n X dX3_blocksSeenBy_74 rfl ?_
        refine g_ireturn X E rfl dX3_blocksSeenBy_75 (by decide) (by decide) ?_
        exact ⟨_, rfl, hf, rfl⟩
      · skip
        exact absurd c19 (by rw [h4, e16, ← hm, Nat.zero_add]; exact nI_nlt (Nat.le_refl _) (by omega))
    | succ m ih =>
      intro k x3 x4 hm h4 hf x2 h2
      refine g_iload X dX3_blocksSeenBy_10 rfl ?_
      refine g_aload_n X dX3_blocksSeenBy_12 rfl ?_
      refine gp_get (j := 3) (v := .ref (ad 4 r 0)) X hR hl cl_X3 lk_X3_12 rfl (by decide) rfl rfl dX3_blocksSeenBy_13 ?_
      refine gp_geti (j := 1) X hR hl cl_X4 lk_X3_79 rfl (by decide) rfl rfl dX3_blocksSeenBy_16 (fun x16 e16 => ?_)
      refine g_icmp_ge 74 X dX3_blocksSeenBy_19 (by decide) (fun c19 => ?_) (fun c19 => ?_)
      · skip
        exact absurd (by rw [h4, e16]; exact nI_lt (by omega) (by omega)) c19
      · skip
        refine g_aload_n X dX3_blocksSeenBy_22 rfl ?_
        refine gp_get (j := 3) (v := .ref (ad 4 r 0)) X hR hl cl_X3 lk_X3_12 rfl (by decide) rfl rfl dX3_blocksSeenBy_23 ?_
        refine g_iload X dX3_blocksSeenBy_26 rfl ?_
        refine gp_V X RM lm_X3_82 (c_X4_blockOrNull G hR hl hB) cl_X4 hR hl rfl rfl rfl (Nat.le_of_ble_eq_true rfl) (by decide) (by decide) dX3_blocksSeenBy_28 (fun v hz q => ?_) (fun _ _ q => q.elim)
        obtain ⟨w28, rfl, e28, rfl⟩ := q
        rcases e28 with ⟨j28, f28, k28, rfl⟩ | ⟨rfl, f28⟩
        · skip
          obtain rfl : k = j28 := (nI_eq (Nat.lt_of_lt_of_le (show k < pnB P r by omega) (Nat.le_trans hB (by decide))) (by omega)).mp ((h4).symm.trans f28)
          have hl28 : gLive P 0 r k := ⟨(hl).1, k28⟩
          refine GJ.seq (st' := [.ref (ad 0 r k)]) rfl ?_
          refine g_astore (lv' := [(5, .ref (ad 0 r k)), (4, .int x4), (3, .int x3), (2, .int x2), (1, .int p), (0, .ref (ad 3 r 0))]) X dX3_blocksSeenBy_31 (by decide) rfl ?_
          refine g_aload X dX3_blocksSeenBy_33 rfl ?_
          refine g_ifnull X dX3_blocksSeenBy_35 ?_
          refine g_aload X dX3_blocksSeenBy_38 rfl ?_
          refine g_iload_n X dX3_blocksSeenBy_40 rfl ?_
          refine g_iload_n X dX3_blocksSeenBy_41 rfl ?_
          refine g_iconst (v := 1) X dX3_blocksSeenBy_42 (by decide) ?_
          refine g_iload X dX3_blocksSeenBy_43 rfl ?_
          refine g_ishl X dX3_blocksSeenBy_45 (fun x45 e45 => ?_)
          refine g_iand X dX3_blocksSeenBy_46 (fun x46 e46 => ?_)
          refine g_if_eq 54 X dX3_blocksSeenBy_47 (by decide) (fun c47 => ?_) (fun c47 => ?_)
          · skip
            refine g_iconst (v := 0) X dX3_blocksSeenBy_54 (by decide) ?_
            refine gp_V X RM lm_X3_86 (c_X0_isSeenBy G hR hl28 (hC k (by omega))) cl_X0 hR hl28 rfl rfl rfl (Nat.le_of_ble_eq_true rfl) (by decide) (by decide) dX3_blocksSeenBy_55 (fun v hz q => ?_) (fun _ _ q => q.elim)
            obtain ⟨x55, rfl, e55, rfl⟩ := q
            refine GJ.seq (st' := [.int x55]) rfl ?_
            refine g_if_eq 68 X dX3_blocksSeenBy_58 (by decide) (fun c58 => ?_) (fun c58 => ?_)
            · skip
              refine gp_iinc 1 X dX3_blocksSeenBy_68 rfl (by decide) (fun x68 e68 => ?_)
              refine GJ.leq (lv' := [(4, .int x68), (5, .ref (ad 0 r k)), (3, .int x3), (2, .int x2), (1, .int p), (0, .ref (ad 3 r 0))]) rfl ?_
              refine g_goto 10 X dX3_blocksSeenBy_71 (by decide) ?_
              refine GJ.pick [0, 2, 3, 4, 5] rfl ?_
              exact ih (k + 1) x3 x68 (by omega) (by rw [e68, h4]; exact nI_1 k) (by
                rw [← hf, fSB, ← h2, ← h4, ← e45, ← e46]
                first | rw [if_pos c47, ← e55] | rw [if_neg c47, ← e55]
                first | rw [if_pos c58] | rw [if_neg c58, e66, e65, e45]) x2 h2
            · skip
              refine g_iload_n X dX3_blocksSeenBy_61 rfl ?_
              refine g_iconst (v := 1) X dX3_blocksSeenBy_62 (by decide) ?_
              refine g_iload X dX3_blocksSeenBy_63 rfl ?_
              refine g_ishl X dX3_blocksSeenBy_65 (fun x65 e65 => ?_)
              refine g_ior X dX3_blocksSeenBy_66 (fun x66 e66 => ?_)
              refine g_istore_n (lv' := [(3, .int x66), (5, .ref (ad 0 r k)), (4, .int x4), (2, .int x2), (1, .int p), (0, .ref (ad 3 r 0))]) X dX3_blocksSeenBy_67 (by decide) rfl ?_
              refine gp_iinc 2 X dX3_blocksSeenBy_68 rfl (by decide) (fun x68 e68 => ?_)
              refine GJ.leq (lv' := [(4, .int x68), (3, .int x66), (5, .ref (ad 0 r k)), (2, .int x2), (1, .int p), (0, .ref (ad 3 r 0))]) rfl ?_
              refine g_goto 10 X dX3_blocksSeenBy_71 (by decide) ?_
              refine GJ.pick [0, 1, 3, 4, 5] rfl ?_
              exact ih (k + 1) x66 x68 (by omega) (by rw [e68, h4]; exact nI_1 k) (by
                rw [← hf, fSB, ← h2, ← h4, ← e45, ← e46]
                first | rw [if_pos c47, ← e55] | rw [if_neg c47, ← e55]
                first | rw [if_pos c58] | rw [if_neg c58, e66, e65, e45]) x2 h2
          · skip
            refine g_iconst (v := 1) X dX3_blocksSeenBy_50 (by decide) ?_
            refine g_goto 55 X dX3_blocksSeenBy_51 (by decide) ?_
            refine gp_V X RM lm_X3_86 (c_X0_isSeenBy G hR hl28 (hC k (by omega))) cl_X0 hR hl28 rfl rfl rfl (Nat.le_of_ble_eq_true rfl) (by decide) (by decide) dX3_blocksSeenBy_55 (fun v hz q => ?_) (fun _ _ q => q.elim)
            obtain ⟨x55, rfl, e55, rfl⟩ := q
            refine GJ.seq (st' := [.int x55]) rfl ?_
            refine g_if_eq 68 X dX3_blocksSeenBy_58 (by decide) (fun c58 => ?_) (fun c58 => ?_)
            · skip
              refine gp_iinc 1 X dX3_blocksSeenBy_68 rfl (by decide) (fun x68 e68 => ?_)
              refine GJ.leq (lv' := [(4, .int x68), (5, .ref (ad 0 r k)), (3, .int x3), (2, .int x2), (1, .int p), (0, .ref (ad 3 r 0))]) rfl ?_
              refine g_goto 10 X dX3_blocksSeenBy_71 (by decide) ?_
              refine GJ.pick [0, 2, 3, 4, 5] rfl ?_
              exact ih (k + 1) x3 x68 (by omega) (by rw [e68, h4]; exact nI_1 k) (by
                rw [← hf, fSB, ← h2, ← h4, ← e45, ← e46]
                first | rw [if_pos c47, ← e55] | rw [if_neg c47, ← e55]
                first | rw [if_pos c58] | rw [if_neg c58, e66, e65, e45]) x2 h2
            · skip
              refine g_iload_n X dX3_blocksSeenBy_61 rfl ?_
              refine g_iconst (v := 1) X dX3_blocksSeenBy_62 (by decide) ?_
              refine g_iload X dX3_blocksSeenBy_63 rfl ?_
              refine g_ishl X dX3_blocksSeenBy_65 (fun x65 e65 => ?_)
              refine g_ior X dX3_blocksSeenBy_66 (fun x66 e66 => ?_)
              refine g_istore_n (lv' := [(3, .int x66), (5, .ref (ad 0 r k)), (4, .int x4), (2, .int x2), (1, .int p), (0, .ref (ad 3 r 0))]) X dX3_blocksSeenBy_67 (by decide) rfl ?_
              refine gp_iinc 2 X dX3_blocksSeenBy_68 rfl (by decide) (fun x68 e68 => ?_)
              refine GJ.leq (lv' := [(4, .int x68), (3, .int x66), (5, .ref (ad 0 r k)), (2, .int x2), (1, .int p), (0, .ref (ad 3 r 0))]) rfl ?_
              refine g_goto 10 X dX3_blocksSeenBy_71 (by decide) ?_
              refine GJ.pick [0, 1, 3, 4, 5] rfl ?_
              exact ih (k + 1) x66 x68 (by omega) (by rw [e68, h4]; exact nI_1 k) (by
                rw [← hf, fSB, ← h2, ← h4, ← e45, ← e46]
                first | rw [if_pos c47, ← e55] | rw [if_neg c47, ← e55]
                first | rw [if_pos c58] | rw [if_neg c58, e66, e65, e45]) x2 h2
        · skip
          exact absurd h4 (f28 _ (show k < pnB P r by omega))
  refine g_aload_n X dX3_blocksSeenBy_0 rfl ?_
  refine gp_V X RM lm_X3_75 (c_X3_blocksWithTrains G hR hl) cl_X3 hR hl rfl rfl rfl (Nat.le_of_ble_eq_true rfl) (by decide) (by decide) dX3_blocksSeenBy_1 (fun v hz q => ?_) (fun _ _ q => q.elim)
  obtain ⟨x1, rfl, e1, rfl⟩ := q
  refine GJ.seq (st' := [.int x1]) rfl ?_
  refine g_istore_n (lv' := [(2, .int x1), (0, .ref (ad 3 r 0)), (1, .int p)]) X dX3_blocksSeenBy_4 (by decide) rfl ?_
  refine g_iconst (v := 0) X dX3_blocksSeenBy_5 (by decide) ?_
  refine g_istore_n (lv' := [(3, .int 0), (2, .int x1), (0, .ref (ad 3 r 0)), (1, .int p)]) X dX3_blocksSeenBy_6 (by decide) rfl ?_
  refine g_iconst (v := 0) X dX3_blocksSeenBy_7 (by decide) ?_
  refine g_istore (lv' := [(4, .int 0), (3, .int 0), (2, .int x1), (0, .ref (ad 3 r 0)), (1, .int p)]) X dX3_blocksSeenBy_8 (by decide) rfl ?_
  refine GJ.pick [0, 1, 2, 4, 3] rfl ?_
  exact L (pnB P r) 0 0 0 (by omega) rfl rfl x1 e1
set_option maxHeartbeats 4000000 in
set_option maxRecDepth 100000 in
theorem c_X3_isSeen {Z : gEnv} {ad : gAd} {P : gP} {h : gH} (G : gG Z) (hR : gRep Z ad P h) {r : Nat} (hl : gLive P 3 r 0) (hB : pnB P r ≤ 12) (hC : gChrs P r) {x p : Int32} : gMet Z yX3_isSeen cX3_isSeen 3 ((Option.some FieldType.boolean)) 4 0 0 [.ref (ad 3 r 0), .int x, .int p] h (qI h (fun y => y = 0 ∨ y = 1)) (qN) := by
  refine g_enter (lv := [(0, .ref (ad 3 r 0)), (1, .int x), (2, .int p)]) G.2 (by decide +kernel) (Nat.le_of_ble_eq_true rfl) rfl (fun Γ X Nt E RM => ?_)
  refine g_aload_n X dX3_isSeen_0 rfl ?_
  refine g_iload_n X dX3_isSeen_1 rfl ?_
  refine gp_V X RM lm_X3_92 (c_X3_blocksSeenBy G hR hl hB hC) cl_X3 hR hl rfl rfl rfl (Nat.le_of_ble_eq_true rfl) (by decide) (by decide) dX3_isSeen_2 (fun v hz q => ?_) (fun _ _ q => q.elim)
  obtain ⟨x2, rfl, e2, rfl⟩ := q
  refine GJ.seq (st' := [.int x2]) rfl ?_
  refine g_iconst (v := 1) X dX3_isSeen_5 (by decide) ?_
  refine g_iload_n X dX3_isSeen_6 rfl ?_
  refine g_ishl X dX3_isSeen_7 (fun x7 e7 => ?_)
  refine g_iand X dX3_isSeen_8 (fun x8 e8 => ?_)
  refine g_if_eq 16 X dX3_isSeen_9 (by decide) (fun c9 => ?_) (fun c9 => ?_)
  · skip
    refine g_iconst (v := 0) X dX3_isSeen_16 (by decide) ?_
    refine g_ireturn X E (by decide) dX3_isSeen_17 (by decide) (by decide) ?_
    exact ⟨_, rfl, by decide, rfl⟩
  · skip
    refine g_iconst (v := 1) X dX3_isSeen_12 (by decide) ?_
    refine g_goto 17 X dX3_isSeen_13 (by decide) ?_
    refine g_ireturn X E (by decide) dX3_isSeen_17 (by decide) (by decide) ?_
    exact ⟨_, rfl, by decide, rfl⟩
set_option maxHeartbeats 4000000 in
set_option maxRecDepth 100000 in
theorem c_X3_processorsDiffer {Z : gEnv} {ad : gAd} {P : gP} {h : gH} (G : gG Z) (hR : gRep Z ad P h) {r : Nat} (hl : gLive P 3 r 0) (hB : pnB P r ≤ 12) (hC : gChrs P r) : gMet Z yX3_processorsDiffer cX3_processorsDiffer 1 ((Option.some FieldType.boolean)) 4 0 0 [.ref (ad 3 r 0)] h (qI h (fun y => True)) (qN) := by
  refine g_enter (lv := [(0, .ref (ad 3 r 0))]) G.2 (by decide +kernel) (Nat.le_of_ble_eq_true rfl) rfl (fun Γ X Nt E RM => ?_)
  refine g_aload_n X dX3_processorsDiffer_0 rfl ?_
  refine g_iconst (v := 0) X dX3_processorsDiffer_1 (by decide) ?_
  refine gp_V X RM lm_X3_92 (c_X3_blocksSeenBy G hR hl hB hC) cl_X3 hR hl rfl rfl rfl (Nat.le_of_ble_eq_true rfl) (by decide) (by decide) dX3_processorsDiffer_2 (fun v hz q => ?_) (fun _ _ q => q.elim)
  obtain ⟨x2, rfl, e2, rfl⟩ := q
  refine GJ.seq (st' := [.int x2]) rfl ?_
  refine g_aload_n X dX3_processorsDiffer_5 rfl ?_
  refine g_iconst (v := 1) X dX3_processorsDiffer_6 (by decide) ?_
  refine gp_V X RM lm_X3_92 (c_X3_blocksSeenBy G hR hl hB hC) cl_X3 hR hl rfl rfl rfl (Nat.le_of_ble_eq_true rfl) (by decide) (by decide) dX3_processorsDiffer_7 (fun v hz q => ?_) (fun _ _ q => q.elim)
  obtain ⟨x7, rfl, e7, rfl⟩ := q
  refine GJ.seq (st' := [.int x7, .int x2]) rfl ?_
  refine g_icmp_eq 17 X dX3_processorsDiffer_10 (by decide) (fun c10 => ?_) (fun c10 => ?_)
  · skip
    refine g_iconst (v := 0) X dX3_processorsDiffer_17 (by decide) ?_
    refine g_ireturn X E (by decide) dX3_processorsDiffer_18 (by decide) (by decide) ?_
    exact ⟨_, rfl, trivial, rfl⟩
  · skip
    refine g_iconst (v := 1) X dX3_processorsDiffer_13 (by decide) ?_
    refine g_goto 18 X dX3_processorsDiffer_14 (by decide) ?_
    refine g_ireturn X E (by decide) dX3_processorsDiffer_18 (by decide) (by decide) ?_
    exact ⟨_, rfl, trivial, rfl⟩
set_option maxHeartbeats 4000000 in
set_option maxRecDepth 100000 in
theorem c_X3_compareProcessors {Z : gEnv} {ad : gAd} {P : gP} {h : gH} (G : gG Z) (hR : gRep Z ad P h) {r : Nat} (hl : gLive P 3 r 0) (hB : pnB P r ≤ 12) (hC : gChrs P r) : gMet Z yX3_compareProcessors cX3_compareProcessors 1 ((Option.none : Option FieldType)) 5 0 0 [.ref (ad 3 r 0)] h (qM (fun h2 => ∃ P2, gRep Z ad P2 h2 ∧ (P2 = P ∨ P2 = uI P 3 r 0 14 1))) (qN) := by
  refine g_enter (lv := [(0, .ref (ad 3 r 0))]) G.2 (by decide +kernel) (Nat.le_of_ble_eq_true rfl) rfl (fun Γ X Nt E RM => ?_)
  refine g_aload_n X dX3_compareProcessors_0 rfl ?_
  refine gp_V X RM lm_X3_96 (c_X3_processorsDiffer G hR hl hB hC) cl_X3 hR hl rfl rfl rfl (Nat.le_of_ble_eq_true rfl) (by decide) (by decide) dX3_compareProcessors_1 (fun v hz q => ?_) (fun _ _ q => q.elim)
  obtain ⟨x1, rfl, e1, rfl⟩ := q
  refine GJ.seq (st' := [.int x1]) rfl ?_
  refine g_if_eq 12 X dX3_compareProcessors_4 (by decide) (fun c4 => ?_) (fun c4 => ?_)
  · skip
    refine g_return X E dX3_compareProcessors_12 (by decide) (by decide) ?_
    first
    | exact ⟨rfl, _, hR, Or.inl rfl⟩
    | exact ⟨rfl, _, hR, Or.inr rfl⟩
  · skip
    refine g_aload_n X dX3_compareProcessors_7 rfl ?_
    refine g_iconst (v := 1) X dX3_compareProcessors_8 (by decide) ?_
    refine gp_puti (j := 14) X hR hl cl_X3 lk_X3_100 rfl (by decide) rfl (by decide) rfl (by decide) (by decide) dX3_compareProcessors_9 (fun h hR => ?_)
    refine g_return X E dX3_compareProcessors_12 (by decide) (by decide) ?_
    first
    | exact ⟨rfl, _, hR, Or.inl rfl⟩
    | exact ⟨rfl, _, hR, Or.inr rfl⟩
end GRIDE
