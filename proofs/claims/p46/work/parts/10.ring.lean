/-! a ring: pure words and contracts -/
section GRING
theorem g_ix {x M : Int32} {N : Nat} (h0 : ¬ x < 0) (h : x < M) (hM : M.toInt = N) : ∃ j : Nat, j < N ∧ x = nI j := by
  obtain ⟨j, hj, hx⟩ := nI_of h0
  refine ⟨j, ?_, hx⟩
  have h1 := Int32.lt_iff_toInt_lt.mp h
  rw [hx, nI_toInt hj, hM] at h1
  omega
theorem g_n1 {x : Int32} (h : x < 0) {i N : Nat} (hi : i < N) (hN : N ≤ 60) : x ≠ nI i := fun e => nI_pos (n := i) (by omega) (by rw [← e]; exact h)
theorem g_n2 {x M : Int32} {K : Nat} (h : ¬ x < M) (hM : M = nI K) (hK : K ≤ 60) {i N : Nat} (hi : i < N) (hN : N ≤ K) : x ≠ nI i := fun e => h (by rw [e, hM]; exact nI_lt (by omega) (by omega))
theorem g_n3 {x : Int32} {j K : Nat} (hx : x = nI j) (hj : j < K) (hK : K ≤ 60) {i N : Nat} (h : ¬ j < N) (hi : i < N) (hN : N ≤ K) : x ≠ nI i := fun e => by
  have h1 := (nI_eq (a := j) (b := i) (by omega) (by omega)).mp (hx.symm.trans e)
  omega
def fNx (nb j : Nat) : Nat := if j + 1 < nb then j + 1 else 0
theorem fNx_lt {nb j : Nat} (h : j < nb) : fNx nb j < nb := by unfold fNx; split <;> omega
def fNS (P : gP) (r : Nat) : Nat → Nat → Nat
  | 0, a => a
  | m + 1, a => if fStop P r a then a else fNS P r m (fNx (pnB P r) a)
def fPath (P : gP) (r : Nat) : Nat → Nat → Int32 → Int32
  | 0, _, p => p
  | m + 1, a, p => if fStop P r (fNx (pnB P r) a) then p ||| (1 <<< (nI (fNx (pnB P r) a) &&& 31)) else fPath P r m (fNx (pnB P r) a) (p ||| (1 <<< (nI (fNx (pnB P r) a) &&& 31)))
def fBad (P : gP) (r : Nat) (w : Int32) : Nat → Nat → Int32 → Int32 → Bool
  | 0, _, _, _ => false
  | m + 1, a, e, s => if fStop P r a then false else if 6 < fFF P r a e ∨ ¬ (if 4 < fFF P r a e then s + 1 else 0) < 3 ∨ fEB P r a e w < 0 then true else fBad P r w m (fNx (pnB P r) a) (fEB P r a e w) (if 4 < fFF P r a e then s + 1 else 0)

set_option maxHeartbeats 4000000 in
set_option maxRecDepth 100000 in
theorem c_X4_blockOrNull {Z : gEnv} {ad : gAd} {P : gP} {h : gH} (G : gG Z) (hR : gRep Z ad P h) {r : Nat} (hl : gLive P 4 r 0) (hB : pnB P r ≤ 12) {x : Int32} : gMet Z yX4_blockOrNull cX4_blockOrNull 2 ((Option.some (FieldType.object "Coasterland$Block"))) 1 0 0 [.ref (ad 4 r 0), .int x] h (qR h (fun w => (∃ j, x = nI j ∧ j < pnB P r ∧ w = .ref (ad 0 r j)) ∨ (w = .null ∧ ∀ i, i < pnB P r → x ≠ nI i))) (qN) := by
  refine g_enter (lv := [(0, .ref (ad 4 r 0)), (1, .int x)]) G.2 (by decide +kernel) (Nat.le_of_ble_eq_true rfl) rfl (fun Γ X Nt E RM => ?_)
  refine g_iload_n X dX4_blockOrNull_0 rfl ?_
  refine g_if_lt 22 X dX4_blockOrNull_1 (by decide) (fun c1 => ?_) (fun c1 => ?_)
  · skip
    refine g_null X dX4_blockOrNull_22 ?_
    refine g_areturn X E (Or.inl rfl) dX4_blockOrNull_23 (by decide) (by decide) ?_
    exact ⟨_, rfl, Or.inr ⟨rfl, fun i hi => by first | exact g_n3 hxj hj (by decide) h18 hi hB | exact g_n2 c10 rfl (by decide) hi hB | exact g_n1 c1 hi (Nat.le_trans hB (by decide))⟩, rfl⟩
  · skip
    refine g_iload_n X dX4_blockOrNull_4 rfl ?_
    refine g_aload_n X dX4_blockOrNull_5 rfl ?_
    refine gp_get (j := 0) (v := .ref (ad 10 r 0)) X hR hl cl_X4 lk_X4_11 rfl (by decide) rfl rfl dX4_blockOrNull_6 ?_
    refine gp_alen (v := 12) X hR hl G.t3 rfl rfl dX4_blockOrNull_9 ?_
    refine g_icmp_ge 22 X dX4_blockOrNull_10 (by decide) (fun c10 => ?_) (fun c10 => ?_)
    · skip
      refine g_null X dX4_blockOrNull_22 ?_
      refine g_areturn X E (Or.inl rfl) dX4_blockOrNull_23 (by decide) (by decide) ?_
      exact ⟨_, rfl, Or.inr ⟨rfl, fun i hi => by first | exact g_n3 hxj hj (by decide) h18 hi hB | exact g_n2 c10 rfl (by decide) hi hB | exact g_n1 c1 hi (Nat.le_trans hB (by decide))⟩, rfl⟩
    · skip
      obtain ⟨j, hj, hxj⟩ := g_ix c1 c10 (N := 12) (by decide)
      refine g_aload_n X dX4_blockOrNull_13 rfl ?_
      refine gp_get (j := 0) (v := .ref (ad 10 r 0)) X hR hl cl_X4 lk_X4_11 rfl (by decide) rfl rfl dX4_blockOrNull_14 ?_
      refine g_iload_n X dX4_blockOrNull_17 rfl ?_
      refine gp_aald_if (j := j) X hR hl G.t3 rfl hxj hj (by decide) dX4_blockOrNull_18 (fun h18 => ?_) (fun h18 => ?_)
      · skip
        have hl18 : gLive P 0 r j := ⟨(hl).1, h18⟩
        refine g_goto 23 X dX4_blockOrNull_19 (by decide) ?_
        refine g_areturn X E (Or.inr ⟨_, rfl⟩) dX4_blockOrNull_23 (by decide) (by decide) ?_
        exact ⟨_, rfl, Or.inl ⟨j, hxj, h18, rfl⟩, rfl⟩
      · skip
        refine g_goto 23 X dX4_blockOrNull_19 (by decide) ?_
        refine g_areturn X E (Or.inl rfl) dX4_blockOrNull_23 (by decide) (by decide) ?_
        exact ⟨_, rfl, Or.inr ⟨rfl, fun i hi => by first | exact g_n3 hxj hj (by decide) h18 hi hB | exact g_n2 c10 rfl (by decide) hi hB | exact g_n1 c1 hi (Nat.le_trans hB (by decide))⟩, rfl⟩
theorem g_next {x : Int32} {j nb : Nat} (hx : x = nI j) (hj : j < nb) (hb : nb ≤ 12) : (x + 1 < nI nb ↔ j + 1 < nb) ∧ x + 1 = nI (j + 1) := by
  subst hx
  rw [nI_1]
  exact ⟨nI_ltI (by omega) (by omega), rfl⟩
set_option maxHeartbeats 4000000 in
set_option maxRecDepth 100000 in
theorem c_X4_next {Z : gEnv} {ad : gAd} {P : gP} {h : gH} (G : gG Z) (hR : gRep Z ad P h) {r : Nat} (hl : gLive P 4 r 0) (hB : pnB P r ≤ 12) {x : Int32} {j : Nat} (hx : x = nI j) (hj : j < pnB P r) : gMet Z yX4_next cX4_next 2 ((Option.some FieldType.int)) 1 0 0 [.ref (ad 4 r 0), .int x] h (qI h (fun y => y = nI (fNx (pnB P r) j))) (qN) := by
  refine g_enter (lv := [(0, .ref (ad 4 r 0)), (1, .int x)]) G.2 (by decide +kernel) (Nat.le_of_ble_eq_true rfl) rfl (fun Γ X Nt E RM => ?_)
  refine g_iload_n X dX4_next_0 rfl ?_
  refine g_iconst (v := 1) X dX4_next_1 (by decide) ?_
  refine g_iadd X dX4_next_2 (fun x2 e2 => ?_)
  refine g_aload_n X dX4_next_3 rfl ?_
  refine gp_geti (j := 1) X hR hl cl_X4 lk_X4_17 rfl (by decide) rfl rfl dX4_next_4 (fun x4 e4 => ?_)
  refine g_icmp_ge 16 X dX4_next_7 (by decide) (fun c7 => ?_) (fun c7 => ?_)
  · skip
    refine g_iconst (v := 0) X dX4_next_16 (by decide) ?_
    refine g_ireturn X E rfl dX4_next_17 (by decide) (by decide) ?_
    have hn := g_next hx hj hB
    rw [e2, e4] at c7
    exact ⟨_, rfl, by rw [fNx, if_neg (fun q => c7 (hn.1.mpr q))]; rfl, rfl⟩
  · skip
    refine g_iload_n X dX4_next_10 rfl ?_
    refine g_iconst (v := 1) X dX4_next_11 (by decide) ?_
    refine g_iadd X dX4_next_12 (fun x12 e12 => ?_)
    refine g_goto 17 X dX4_next_13 (by decide) ?_
    refine g_ireturn X E rfl dX4_next_17 (by decide) (by decide) ?_
    have hn := g_next hx hj hB
    rw [e2, e4] at c7
    exact ⟨_, rfl, by rw [e12, hn.2, fNx, if_pos (hn.1.mp c7)], rfl⟩
set_option maxHeartbeats 4000000 in
set_option maxRecDepth 100000 in
theorem c_X4_isStop {Z : gEnv} {ad : gAd} {P : gP} {h : gH} (G : gG Z) (hR : gRep Z ad P h) {r : Nat} (hl : gLive P 4 r 0) (hB : pnB P r ≤ 12) {x : Int32} {j : Nat} (hx : x = nI j) (hj : j < pnB P r) : gMet Z yX4_isStop cX4_isStop 3 ((Option.some FieldType.boolean)) 2 0 0 [.ref (ad 4 r 0), .int x] h (qI h (fun y => y = if fStop P r j then 1 else 0)) (qN) := by
  refine g_enter (lv := [(0, .ref (ad 4 r 0)), (1, .int x)]) G.2 (by decide +kernel) (Nat.le_of_ble_eq_true rfl) rfl (fun Γ X Nt E RM => ?_)
  refine g_aload_n X dX4_isStop_0 rfl ?_
  refine g_iload_n X dX4_isStop_1 rfl ?_
  refine gp_V X RM lm_X4_28 (c_X4_blockOrNull G hR hl hB) cl_X4 hR hl rfl rfl rfl (Nat.le_of_ble_eq_true rfl) (by decide) (by decide) dX4_isStop_2 (fun v hz q => ?_) (fun _ _ q => q.elim)
  obtain ⟨w2, rfl, e2, rfl⟩ := q
  rcases e2 with ⟨j2, f2, k2, rfl⟩ | ⟨rfl, f2⟩
  · skip
    have hl2 : gLive P 0 r j2 := ⟨(hl).1, k2⟩
    refine GJ.seq (st' := [.ref (ad 0 r j2)]) rfl ?_
    refine g_astore_n (lv' := [(2, .ref (ad 0 r j2)), (0, .ref (ad 4 r 0)), (1, .int x)]) X dX4_isStop_5 (by decide) rfl ?_
    refine g_aload_n X dX4_isStop_6 rfl ?_
    refine g_ifnull X dX4_isStop_7 ?_
    refine g_aload_n X dX4_isStop_10 rfl ?_
    refine gp_V X RM lm_X4_32 (c_X0_isStop G hR hl2) cl_X0 hR hl2 rfl rfl rfl (Nat.le_of_ble_eq_true rfl) (by decide) (by decide) dX4_isStop_11 (fun v hz q => ?_) (fun _ _ q => q.elim)
    obtain ⟨x11, rfl, e11, rfl⟩ := q
    refine GJ.seq (st' := [.int x11]) rfl ?_
    refine g_if_eq 21 X dX4_isStop_14 (by decide) (fun c14 => ?_) (fun c14 => ?_)
    · skip
      refine g_iconst (v := 0) X dX4_isStop_21 (by decide) ?_
      refine g_ireturn X E (by decide) dX4_isStop_22 (by decide) (by decide) ?_
      first | exact absurd hx (f2 j hj) | (have hjj : j2 = j := (nI_eq (by omega) (by omega)).mp (f2.symm.trans hx); subst hjj; exact ⟨_, rfl, by simp_all [bz], rfl⟩)
    · skip
      refine g_iconst (v := 1) X dX4_isStop_17 (by decide) ?_
      refine g_goto 22 X dX4_isStop_18 (by decide) ?_
      refine g_ireturn X E (by decide) dX4_isStop_22 (by decide) (by decide) ?_
      first | exact absurd hx (f2 j hj) | (have hjj : j2 = j := (nI_eq (by omega) (by omega)).mp (f2.symm.trans hx); subst hjj; exact ⟨_, rfl, by simp_all [bz], rfl⟩)
  · skip
    refine GJ.seq (st' := [.null]) rfl ?_
    refine g_astore_nN (lv' := [(2, .null), (0, .ref (ad 4 r 0)), (1, .int x)]) X dX4_isStop_5 (by decide) rfl ?_
    refine g_aload_nN X dX4_isStop_6 rfl ?_
    refine g_ifnullN 21 X dX4_isStop_7 (by decide) ?_
    refine g_iconst (v := 0) X dX4_isStop_21 (by decide) ?_
    refine g_ireturn X E (by decide) dX4_isStop_22 (by decide) (by decide) ?_
    first | exact absurd hx (f2 j hj) | (have hjj : j2 = j := (nI_eq (by omega) (by omega)).mp (f2.symm.trans hx); subst hjj; exact ⟨_, rfl, by simp_all [bz], rfl⟩)
set_option maxHeartbeats 4000000 in
set_option maxRecDepth 100000 in
theorem c_X4_nextStop {Z : gEnv} {ad : gAd} {P : gP} {h : gH} (G : gG Z) (hR : gRep Z ad P h) {r : Nat} (hl : gLive P 4 r 0) (hB : pnB P r ≤ 12) {x : Int32} {j : Nat} (hx : x = nI j) (hj : j < pnB P r) : gMet Z yX4_nextStop cX4_nextStop 4 ((Option.some FieldType.int)) 3 0 0 [.ref (ad 4 r 0), .int x] h (qI h (fun y => y = nI (fNS P r (pnB P r) (fNx (pnB P r) j)))) (qN) := by
  refine g_enter (lv := [(0, .ref (ad 4 r 0)), (1, .int x)]) G.2 (by decide +kernel) (Nat.le_of_ble_eq_true rfl) rfl (fun Γ X Nt E RM => ?_)
  have L : ∀ (m : Nat) (k a : Nat) (x2 x3 : Int32) (hm : m + k = pnB P r) (ha : a < pnB P r) (hf : fNS P r m a = fNS P r (pnB P r) (fNx (pnB P r) j)) (h2 : x2 = nI a) (h3 : x3 = nI k), GJ Z Γ h 0 0 8 [(3, .int x3), (2, .int x2), (1, .int x), (0, .ref (ad 4 r 0))] [] := by
    intro m
    induction m with
    | zero =>
      intro k a x2 x3 hm ha hf h2 h3
      refine g_iload_n X dX4_nextStop_8 rfl ?_
      refine g_aload_n X dX4_nextStop_9 rfl ?_
      refine gp_geti (j := 1) X hR hl cl_X4 lk_X4_17 rfl (by decide) rfl rfl dX4_nextStop_10 (fun x10 e10 => ?_)
      refine g_icmp_ge 36 X dX4_nextStop_13 (by decide) (fun c13 => ?_) (fun c13 => ?_)
      · skip
        refine g_iload_n X dX4_nextStop_36 rfl ?_
        refine g_ireturn X E rfl dX4_nextStop_37 (by decide) (by decide) ?_
        refine ⟨_, rfl, ?_, rfl⟩
        rw [h2, ← hf, fNS]
      · skip
        exact absurd c13 (by rw [h3, e10, ← hm, Nat.zero_add]; exact nI_nlt (Nat.le_refl _) (by omega))
    | succ m ih =>
      intro k a x2 x3 hm ha hf h2 h3
      refine g_iload_n X dX4_nextStop_8 rfl ?_
      refine g_aload_n X dX4_nextStop_9 rfl ?_
      refine gp_geti (j := 1) X hR hl cl_X4 lk_X4_17 rfl (by decide) rfl rfl dX4_nextStop_10 (fun x10 e10 => ?_)
      refine g_icmp_ge 36 X dX4_nextStop_13 (by decide) (fun c13 => ?_) (fun c13 => ?_)
      · skip
        exact absurd (by rw [h3, e10]; exact nI_lt (by omega) (by omega)) c13
      · skip
        refine g_aload_n X dX4_nextStop_16 rfl ?_
        refine g_iload_n X dX4_nextStop_17 rfl ?_
        refine gp_V X RM lm_X4_40 (c_X4_isStop G hR hl hB h2 ha) cl_X4 hR hl rfl rfl rfl (Nat.le_of_ble_eq_true rfl) (by decide) (by decide) dX4_nextStop_18 (fun v hz q => ?_) (fun _ _ q => q.elim)
        obtain ⟨x18, rfl, e18, rfl⟩ := q
        refine GJ.seq (st' := [.int x18]) rfl ?_
        refine g_if_ne 36 X dX4_nextStop_21 (by decide) (fun c21 => ?_) (fun c21 => ?_)
        · skip
          refine g_iload_n X dX4_nextStop_36 rfl ?_
          refine g_ireturn X E rfl dX4_nextStop_37 (by decide) (by decide) ?_
          refine ⟨_, rfl, ?_, rfl⟩
          rw [h2, ← hf, fNS, if_pos ((bz e18).2.mp c21)]
        · skip
          refine g_aload_n X dX4_nextStop_24 rfl ?_
          refine g_iload_n X dX4_nextStop_25 rfl ?_
          refine gp_V X RM lm_X4_36 (c_X4_next G hR hl hB h2 ha) cl_X4 hR hl rfl rfl rfl (Nat.le_of_ble_eq_true rfl) (by decide) (by decide) dX4_nextStop_26 (fun v hz q => ?_) (fun _ _ q => q.elim)
          obtain ⟨x26, rfl, e26, rfl⟩ := q
          refine GJ.seq (st' := [.int x26]) rfl ?_
          refine g_istore_n (lv' := [(2, .int x26), (3, .int x3), (1, .int x), (0, .ref (ad 4 r 0))]) X dX4_nextStop_29 (by decide) rfl ?_
          refine gp_iinc 1 X dX4_nextStop_30 rfl (by decide) (fun x30 e30 => ?_)
          refine GJ.leq (lv' := [(3, .int x30), (2, .int x26), (1, .int x), (0, .ref (ad 4 r 0))]) rfl ?_
          refine g_goto 8 X dX4_nextStop_33 (by decide) ?_
          exact ih (k + 1) (fNx (pnB P r) a) x26 x30 (by omega) (fNx_lt ha) (by rw [← hf, fNS, if_neg (by rw [(bz e18).1.mp c21]; decide)]) e26 (by rw [e30, h3]; exact nI_1 k)
  refine g_aload_n X dX4_nextStop_0 rfl ?_
  refine g_iload_n X dX4_nextStop_1 rfl ?_
  refine gp_V X RM lm_X4_36 (c_X4_next G hR hl hB hx hj) cl_X4 hR hl rfl rfl rfl (Nat.le_of_ble_eq_true rfl) (by decide) (by decide) dX4_nextStop_2 (fun v hz q => ?_) (fun _ _ q => q.elim)
  obtain ⟨x2, rfl, e2, rfl⟩ := q
  refine GJ.seq (st' := [.int x2]) rfl ?_
  refine g_istore_n (lv' := [(2, .int x2), (0, .ref (ad 4 r 0)), (1, .int x)]) X dX4_nextStop_5 (by decide) rfl ?_
  refine g_iconst (v := 0) X dX4_nextStop_6 (by decide) ?_
  refine g_istore_n (lv' := [(3, .int 0), (2, .int x2), (0, .ref (ad 4 r 0)), (1, .int x)]) X dX4_nextStop_7 (by decide) rfl ?_
  refine GJ.pick [0, 1, 3, 2] rfl ?_
  exact L (pnB P r) 0 (fNx (pnB P r) j) x2 0 (by omega) (fNx_lt hj) rfl e2 rfl
set_option maxHeartbeats 4000000 in
set_option maxRecDepth 100000 in
theorem c_X4_pathBehind {Z : gEnv} {ad : gAd} {P : gP} {h : gH} (G : gG Z) (hR : gRep Z ad P h) {r : Nat} (hl : gLive P 4 r 0) (hB : pnB P r ≤ 12) {x : Int32} {j : Nat} (hx : x = nI j) (hj : j < pnB P r) : gMet Z yX4_pathBehind cX4_pathBehind 5 ((Option.some FieldType.int)) 3 0 0 [.ref (ad 4 r 0), .int x] h (qI h (fun y => y = fPath P r (pnB P r) j 0)) (qN) := by
  refine g_enter (lv := [(0, .ref (ad 4 r 0)), (1, .int x)]) G.2 (by decide +kernel) (Nat.le_of_ble_eq_true rfl) rfl (fun Γ X Nt E RM => ?_)
  have L : ∀ (m : Nat) (k a : Nat) (x2 x3 x4 : Int32) (hm : m + k = pnB P r) (ha : a < pnB P r) (hf : fPath P r m a x2 = fPath P r (pnB P r) j 0) (h3 : x3 = nI a) (h4 : x4 = nI k), GJ Z Γ h 0 0 7 [(4, .int x4), (3, .int x3), (2, .int x2), (1, .int x), (0, .ref (ad 4 r 0))] [] := by
    intro m
    induction m with
    | zero =>
      intro k a x2 x3 x4 hm ha hf h3 h4
      refine g_iload X dX4_pathBehind_7 rfl ?_
      refine g_aload_n X dX4_pathBehind_9 rfl ?_
      refine gp_geti (j := 1) X hR hl cl_X4 lk_X4_17 rfl (by decide) rfl rfl dX4_pathBehind_10 (fun x10 e10 => ?_)
      refine g_icmp_ge 44 X dX4_pathBehind_13 (by decide) (fun c13 => ?_) (fun c13 => ?_)
      · skip
        refine g_iload_n X dX4_pathBehind_44 rfl ?_
        refine g_ireturn X E rfl dX4_pathBehind_45 (by decide) (by decide) ?_
        refine ⟨_, rfl, ?_, rfl⟩
        rw [← hf, fPath]
      · skip
        exact absurd c13 (by rw [h4, e10, ← hm, Nat.zero_add]; exact nI_nlt (Nat.le_refl _) (by omega))
    | succ m ih =>
      intro k a x2 x3 x4 hm ha hf h3 h4
      refine g_iload X dX4_pathBehind_7 rfl ?_
      refine g_aload_n X dX4_pathBehind_9 rfl ?_
      refine gp_geti (j := 1) X hR hl cl_X4 lk_X4_17 rfl (by decide) rfl rfl dX4_pathBehind_10 (fun x10 e10 => ?_)
      refine g_icmp_ge 44 X dX4_pathBehind_13 (by decide) (fun c13 => ?_) (fun c13 => ?_)
      · skip
        exact absurd (by rw [h4, e10]; exact nI_lt (by omega) (by omega)) c13
      · skip
        refine g_aload_n X dX4_pathBehind_16 rfl ?_
        refine g_iload_n X dX4_pathBehind_17 rfl ?_
        refine gp_V X RM lm_X4_36 (c_X4_next G hR hl hB h3 ha) cl_X4 hR hl rfl rfl rfl (Nat.le_of_ble_eq_true rfl) (by decide) (by decide) dX4_pathBehind_18 (fun v hz q => ?_) (fun _ _ q => q.elim)
        obtain ⟨x18, rfl, e18, rfl⟩ := q
        refine GJ.seq (st' := [.int x18]) rfl ?_
        refine g_istore_n (lv' := [(3, .int x18), (4, .int x4), (2, .int x2), (1, .int x), (0, .ref (ad 4 r 0))]) X dX4_pathBehind_21 (by decide) rfl ?_
        refine g_iload_n X dX4_pathBehind_22 rfl ?_
        refine g_iconst (v := 1) X dX4_pathBehind_23 (by decide) ?_
        refine g_iload_n X dX4_pathBehind_24 rfl ?_
        refine g_ishl X dX4_pathBehind_25 (fun x25 e25 => ?_)
        refine g_ior X dX4_pathBehind_26 (fun x26 e26 => ?_)
        refine g_istore_n (lv' := [(2, .int x26), (3, .int x18), (4, .int x4), (1, .int x), (0, .ref (ad 4 r 0))]) X dX4_pathBehind_27 (by decide) rfl ?_
        refine g_aload_n X dX4_pathBehind_28 rfl ?_
        refine g_iload_n X dX4_pathBehind_29 rfl ?_
        refine gp_V X RM lm_X4_40 (c_X4_isStop G hR hl hB e18 (fNx_lt ha)) cl_X4 hR hl rfl rfl rfl (Nat.le_of_ble_eq_true rfl) (by decide) (by decide) dX4_pathBehind_30 (fun v hz q => ?_) (fun _ _ q => q.elim)
        obtain ⟨x30, rfl, e30, rfl⟩ := q
        refine GJ.seq (st' := [.int x30]) rfl ?_
        refine g_if_eq 38 X dX4_pathBehind_33 (by decide) (fun c33 => ?_) (fun c33 => ?_)
        · skip
          refine gp_iinc 2 X dX4_pathBehind_38 rfl (by decide) (fun x38 e38 => ?_)
          refine GJ.leq (lv' := [(4, .int x38), (2, .int x26), (3, .int x18), (1, .int x), (0, .ref (ad 4 r 0))]) rfl ?_
          refine g_goto 7 X dX4_pathBehind_41 (by decide) ?_
          refine GJ.pick [0, 2, 1, 3, 4] rfl ?_
          exact ih (k + 1) (fNx (pnB P r) a) x26 x18 x38 (by omega) (fNx_lt ha) (by rw [← hf, fPath, if_neg (by rw [(bz e30).1.mp c33]; decide), e26, e25, e18]) e18 (by rw [e38, h4]; exact nI_1 k)
        · skip
          refine g_iload_n X dX4_pathBehind_36 rfl ?_
          refine g_ireturn X E rfl dX4_pathBehind_37 (by decide) (by decide) ?_
          refine ⟨_, rfl, ?_, rfl⟩
          rw [← hf, fPath, if_pos ((bz e30).2.mp c33), e26, e25, e18]
  refine g_iconst (v := 0) X dX4_pathBehind_0 (by decide) ?_
  refine g_istore_n (lv' := [(2, .int 0), (0, .ref (ad 4 r 0)), (1, .int x)]) X dX4_pathBehind_1 (by decide) rfl ?_
  refine g_iload_n X dX4_pathBehind_2 rfl ?_
  refine g_istore_n (lv' := [(3, .int x), (2, .int 0), (0, .ref (ad 4 r 0)), (1, .int x)]) X dX4_pathBehind_3 (by decide) rfl ?_
  refine g_iconst (v := 0) X dX4_pathBehind_4 (by decide) ?_
  refine g_istore (lv' := [(4, .int 0), (3, .int x), (2, .int 0), (0, .ref (ad 4 r 0)), (1, .int x)]) X dX4_pathBehind_5 (by decide) rfl ?_
  refine GJ.pick [0, 1, 2, 4, 3] rfl ?_
  exact L (pnB P r) 0 j 0 x 0 (by omega) hj rfl hx rfl
set_option maxHeartbeats 4000000 in
set_option maxRecDepth 100000 in
theorem c_X4_isRunBad {Z : gEnv} {ad : gAd} {P : gP} {h : gH} (G : gG Z) (hR : gRep Z ad P h) {r : Nat} (hl : gLive P 4 r 0) (hB : pnB P r ≤ 12) {x : Int32} {j : Nat} (hx : x = nI j) (hj : j < pnB P r) {w : Int32} : gMet Z yX4_isRunBad cX4_isRunBad 9 ((Option.some FieldType.boolean)) 3 0 0 [.ref (ad 4 r 0), .int x, .int w] h (qI h (fun y => y = if fBad P r w (pnB P r) (fNx (pnB P r) j) 3 0 then 1 else 0)) (qN) := by
  refine g_enter (lv := [(0, .ref (ad 4 r 0)), (1, .int x), (2, .int w)]) G.2 (by decide +kernel) (Nat.le_of_ble_eq_true rfl) rfl (fun Γ X Nt E RM => ?_)
  have L : ∀ (m : Nat) (k a : Nat) (x3 x4 x5 x6 : Int32) (hm : m + k = pnB P r) (ha : a < pnB P r) (hf : fBad P r w m a x3 x4 = fBad P r w (pnB P r) (fNx (pnB P r) j) 3 0) (h5 : x5 = nI a) (h6 : x6 = nI k), GJ Z Γ h 0 0 15 [(6, .int x6), (5, .int x5), (4, .int x4), (3, .int x3), (2, .int w), (1, .int x), (0, .ref (ad 4 r 0))] [] := by
    intro m
    induction m with
    | zero =>
      intro k a x3 x4 x5 x6 hm ha hf h5 h6
      refine g_iload X dX4_isRunBad_15 rfl ?_
      refine g_aload_n X dX4_isRunBad_17 rfl ?_
      refine gp_geti (j := 1) X hR hl cl_X4 lk_X4_17 rfl (by decide) rfl rfl dX4_isRunBad_18 (fun x18 e18 => ?_)
      refine g_icmp_ge 112 X dX4_isRunBad_21 (by decide) (fun c21 => ?_) (fun c21 => ?_)
      · skip
        refine g_iconst (v := 0) X dX4_isRunBad_112 (by decide) ?_
        refine g_ireturn X E (by decide) dX4_isRunBad_113 (by decide) (by decide) ?_
        refine ⟨_, rfl, ?_, rfl⟩
        rw [← hf, fBad]
        rfl
      · skip
        exact absurd c21 (by rw [h6, e18, ← hm, Nat.zero_add]; exact nI_nlt (Nat.le_refl _) (by omega))
    | succ m ih =>
      intro k a x3 x4 x5 x6 hm ha hf h5 h6
      refine g_iload X dX4_isRunBad_15 rfl ?_
      refine g_aload_n X dX4_isRunBad_17 rfl ?_
      refine gp_geti (j := 1) X hR hl cl_X4 lk_X4_17 rfl (by decide) rfl rfl dX4_isRunBad_18 (fun x18 e18 => ?_)
      refine g_icmp_ge 112 X dX4_isRunBad_21 (by decide) (fun c21 => ?_) (fun c21 => ?_)
      · skip
        exact absurd (by rw [h6, e18]; exact nI_lt (by omega) (by omega)) c21
      · skip
        refine g_aload_n X dX4_isRunBad_24 rfl ?_
        refine g_iload X dX4_isRunBad_25 rfl ?_
        refine gp_V X RM lm_X4_28 (c_X4_blockOrNull G hR hl hB) cl_X4 hR hl rfl rfl rfl (Nat.le_of_ble_eq_true rfl) (by decide) (by decide) dX4_isRunBad_27 (fun v hz q => ?_) (fun _ _ q => q.elim)
        obtain ⟨w27, rfl, e27, rfl⟩ := q
        rcases e27 with ⟨j27, f27, k27, rfl⟩ | ⟨rfl, f27⟩
        · skip
          obtain rfl : a = j27 := (nI_eq (Nat.lt_of_lt_of_le ha (Nat.le_trans hB (by decide))) (by omega)).mp ((h5).symm.trans f27)
          have hl27 : gLive P 0 r a := ⟨(hl).1, k27⟩
          refine GJ.seq (st' := [.ref (ad 0 r a)]) rfl ?_
          refine g_astore (lv' := [(7, .ref (ad 0 r a)), (6, .int x6), (5, .int x5), (4, .int x4), (3, .int x3), (2, .int w), (1, .int x), (0, .ref (ad 4 r 0))]) X dX4_isRunBad_30 (by decide) rfl ?_
          refine g_aload X dX4_isRunBad_32 rfl ?_
          refine g_ifnull X dX4_isRunBad_34 ?_
          refine g_aload X dX4_isRunBad_37 rfl ?_
          refine gp_V X RM lm_X4_32 (c_X0_isStop G hR hl27) cl_X0 hR hl27 rfl rfl rfl (Nat.le_of_ble_eq_true rfl) (by decide) (by decide) dX4_isRunBad_39 (fun v hz q => ?_) (fun _ _ q => q.elim)
          obtain ⟨x39, rfl, e39, rfl⟩ := q
          refine GJ.seq (st' := [.int x39]) rfl ?_
          refine g_if_eq 47 X dX4_isRunBad_42 (by decide) (fun c42 => ?_) (fun c42 => ?_)
          · skip
            refine g_aload X dX4_isRunBad_47 rfl ?_
            refine g_iload_n X dX4_isRunBad_49 rfl ?_
            refine gp_V X RM lm_X4_43 (c_X0_forceFor G hR hl27) cl_X0 hR hl27 rfl rfl rfl (Nat.le_of_ble_eq_true rfl) (by decide) (by decide) dX4_isRunBad_50 (fun v hz q => ?_) (fun _ _ q => q.elim)
            obtain ⟨x50, rfl, e50, rfl⟩ := q
            refine GJ.seq (st' := [.int x50]) rfl ?_
            refine g_istore (lv' := [(8, .int x50), (7, .ref (ad 0 r a)), (6, .int x6), (5, .int x5), (4, .int x4), (3, .int x3), (2, .int w), (1, .int x), (0, .ref (ad 4 r 0))]) X dX4_isRunBad_53 (by decide) rfl ?_
            refine g_iload X dX4_isRunBad_55 rfl ?_
            refine g_iconst (v := 4) X dX4_isRunBad_57 (by decide) ?_
            refine g_icmp_le 68 X dX4_isRunBad_58 (by decide) (fun c58 => ?_) (fun c58 => ?_)
            · skip
              refine g_iconst (v := 0) X dX4_isRunBad_68 (by decide) ?_
              refine g_istore (lv' := [(4, .int 0), (8, .int x50), (7, .ref (ad 0 r a)), (6, .int x6), (5, .int x5), (3, .int x3), (2, .int w), (1, .int x), (0, .ref (ad 4 r 0))]) X dX4_isRunBad_69 (by decide) rfl ?_
              refine g_aload X dX4_isRunBad_71 rfl ?_
              refine g_iload_n X dX4_isRunBad_73 rfl ?_
              refine g_iload_n X dX4_isRunBad_74 rfl ?_
              refine gp_V X RM lm_X4_46 (c_X0_energyBehind G hR hl27) cl_X0 hR hl27 rfl rfl rfl (Nat.le_of_ble_eq_true rfl) (by decide) (by decide) dX4_isRunBad_75 (fun v hz q => ?_) (fun _ _ q => q.elim)
              obtain ⟨x75, rfl, e75, rfl⟩ := q
              refine GJ.seq (st' := [.int x75]) rfl ?_
              refine g_istore_n (lv' := [(3, .int x75), (4, .int 0), (8, .int x50), (7, .ref (ad 0 r a)), (6, .int x6), (5, .int x5), (2, .int w), (1, .int x), (0, .ref (ad 4 r 0))]) X dX4_isRunBad_78 (by decide) rfl ?_
              refine g_iload X dX4_isRunBad_79 rfl ?_
              refine g_bipush (v := 6) X dX4_isRunBad_81 (by decide) ?_
              refine g_icmp_gt 96 X dX4_isRunBad_83 (by decide) (fun c83 => ?_) (fun c83 => ?_)
              · skip
                refine g_iconst (v := 1) X dX4_isRunBad_96 (by decide) ?_
                refine g_ireturn X E (by decide) dX4_isRunBad_97 (by decide) (by decide) ?_
                refine ⟨_, rfl, ?_, rfl⟩
                rw [← hf, fBad]
                subst_vars
                simp_all [bz, -Int32.not_lt]
              · skip
                refine g_iload X dX4_isRunBad_86 rfl ?_
                refine g_iconst (v := 3) X dX4_isRunBad_88 (by decide) ?_
                refine g_icmp_ge 96 X dX4_isRunBad_89 (by decide) (fun c89 => ?_) (fun c89 => ?_)
                · skip
                  exact absurd c89 (by decide)
                · skip
                  refine g_iload_n X dX4_isRunBad_92 rfl ?_
                  refine g_if_ge 98 X dX4_isRunBad_93 (by decide) (fun c93 => ?_) (fun c93 => ?_)
                  · skip
                    refine g_aload_n X dX4_isRunBad_98 rfl ?_
                    refine g_iload X dX4_isRunBad_99 rfl ?_
                    refine gp_V X RM lm_X4_36 (c_X4_next G hR hl hB h5 ha) cl_X4 hR hl rfl rfl rfl (Nat.le_of_ble_eq_true rfl) (by decide) (by decide) dX4_isRunBad_101 (fun v hz q => ?_) (fun _ _ q => q.elim)
                    obtain ⟨x101, rfl, e101, rfl⟩ := q
                    refine GJ.seq (st' := [.int x101]) rfl ?_
                    refine g_istore (lv' := [(5, .int x101), (3, .int x75), (4, .int 0), (8, .int x50), (7, .ref (ad 0 r a)), (6, .int x6), (2, .int w), (1, .int x), (0, .ref (ad 4 r 0))]) X dX4_isRunBad_104 (by decide) rfl ?_
                    refine gp_iinc 5 X dX4_isRunBad_106 rfl (by decide) (fun x106 e106 => ?_)
                    refine GJ.leq (lv' := [(6, .int x106), (5, .int x101), (3, .int x75), (4, .int 0), (8, .int x50), (7, .ref (ad 0 r a)), (2, .int w), (1, .int x), (0, .ref (ad 4 r 0))]) rfl ?_
                    refine g_goto 15 X dX4_isRunBad_109 (by decide) ?_
                    refine GJ.pick [0, 1, 3, 2, 6, 7, 8] rfl ?_
                    exact ih (k + 1) (fNx (pnB P r) a) x75 0 x101 x106 (by omega) (fNx_lt ha) (by rw [← hf, fBad]; subst_vars; simp_all [bz, -Int32.not_lt]) e101 (by rw [e106, h6]; exact nI_1 k)
                  · skip
                    refine g_iconst (v := 1) X dX4_isRunBad_96 (by decide) ?_
                    refine g_ireturn X E (by decide) dX4_isRunBad_97 (by decide) (by decide) ?_
                    refine ⟨_, rfl, ?_, rfl⟩
                    rw [← hf, fBad]
                    subst_vars
                    simp_all [bz, -Int32.not_lt]
            · skip
              refine g_iload X dX4_isRunBad_61 rfl ?_
              refine g_iconst (v := 1) X dX4_isRunBad_63 (by decide) ?_
              refine g_iadd X dX4_isRunBad_64 (fun x64 e64 => ?_)
              refine g_goto 69 X dX4_isRunBad_65 (by decide) ?_
              refine g_istore (lv' := [(4, .int x64), (8, .int x50), (7, .ref (ad 0 r a)), (6, .int x6), (5, .int x5), (3, .int x3), (2, .int w), (1, .int x), (0, .ref (ad 4 r 0))]) X dX4_isRunBad_69 (by decide) rfl ?_
              refine g_aload X dX4_isRunBad_71 rfl ?_
              refine g_iload_n X dX4_isRunBad_73 rfl ?_
              refine g_iload_n X dX4_isRunBad_74 rfl ?_
              refine gp_V X RM lm_X4_46 (c_X0_energyBehind G hR hl27) cl_X0 hR hl27 rfl rfl rfl (Nat.le_of_ble_eq_true rfl) (by decide) (by decide) dX4_isRunBad_75 (fun v hz q => ?_) (fun _ _ q => q.elim)
              obtain ⟨x75, rfl, e75, rfl⟩ := q
              refine GJ.seq (st' := [.int x75]) rfl ?_
              refine g_istore_n (lv' := [(3, .int x75), (4, .int x64), (8, .int x50), (7, .ref (ad 0 r a)), (6, .int x6), (5, .int x5), (2, .int w), (1, .int x), (0, .ref (ad 4 r 0))]) X dX4_isRunBad_78 (by decide) rfl ?_
              refine g_iload X dX4_isRunBad_79 rfl ?_
              refine g_bipush (v := 6) X dX4_isRunBad_81 (by decide) ?_
              refine g_icmp_gt 96 X dX4_isRunBad_83 (by decide) (fun c83 => ?_) (fun c83 => ?_)
              · skip
                refine g_iconst (v := 1) X dX4_isRunBad_96 (by decide) ?_
                refine g_ireturn X E (by decide) dX4_isRunBad_97 (by decide) (by decide) ?_
                refine ⟨_, rfl, ?_, rfl⟩
                rw [← hf, fBad]
                subst_vars
                simp_all [bz, -Int32.not_lt]
              · skip
                refine g_iload X dX4_isRunBad_86 rfl ?_
                refine g_iconst (v := 3) X dX4_isRunBad_88 (by decide) ?_
                refine g_icmp_ge 96 X dX4_isRunBad_89 (by decide) (fun c89 => ?_) (fun c89 => ?_)
                · skip
                  refine g_iconst (v := 1) X dX4_isRunBad_96 (by decide) ?_
                  refine g_ireturn X E (by decide) dX4_isRunBad_97 (by decide) (by decide) ?_
                  refine ⟨_, rfl, ?_, rfl⟩
                  rw [← hf, fBad]
                  subst_vars
                  simp_all [bz, -Int32.not_lt]
                · skip
                  refine g_iload_n X dX4_isRunBad_92 rfl ?_
                  refine g_if_ge 98 X dX4_isRunBad_93 (by decide) (fun c93 => ?_) (fun c93 => ?_)
                  · skip
                    refine g_aload_n X dX4_isRunBad_98 rfl ?_
                    refine g_iload X dX4_isRunBad_99 rfl ?_
                    refine gp_V X RM lm_X4_36 (c_X4_next G hR hl hB h5 ha) cl_X4 hR hl rfl rfl rfl (Nat.le_of_ble_eq_true rfl) (by decide) (by decide) dX4_isRunBad_101 (fun v hz q => ?_) (fun _ _ q => q.elim)
                    obtain ⟨x101, rfl, e101, rfl⟩ := q
                    refine GJ.seq (st' := [.int x101]) rfl ?_
                    refine g_istore (lv' := [(5, .int x101), (3, .int x75), (4, .int x64), (8, .int x50), (7, .ref (ad 0 r a)), (6, .int x6), (2, .int w), (1, .int x), (0, .ref (ad 4 r 0))]) X dX4_isRunBad_104 (by decide) rfl ?_
                    refine gp_iinc 5 X dX4_isRunBad_106 rfl (by decide) (fun x106 e106 => ?_)
                    refine GJ.leq (lv' := [(6, .int x106), (5, .int x101), (3, .int x75), (4, .int x64), (8, .int x50), (7, .ref (ad 0 r a)), (2, .int w), (1, .int x), (0, .ref (ad 4 r 0))]) rfl ?_
                    refine g_goto 15 X dX4_isRunBad_109 (by decide) ?_
                    refine GJ.pick [0, 1, 3, 2, 6, 7, 8] rfl ?_
                    exact ih (k + 1) (fNx (pnB P r) a) x75 x64 x101 x106 (by omega) (fNx_lt ha) (by rw [← hf, fBad]; subst_vars; simp_all [bz, -Int32.not_lt]) e101 (by rw [e106, h6]; exact nI_1 k)
                  · skip
                    refine g_iconst (v := 1) X dX4_isRunBad_96 (by decide) ?_
                    refine g_ireturn X E (by decide) dX4_isRunBad_97 (by decide) (by decide) ?_
                    refine ⟨_, rfl, ?_, rfl⟩
                    rw [← hf, fBad]
                    subst_vars
                    simp_all [bz, -Int32.not_lt]
          · skip
            refine g_iconst (v := 0) X dX4_isRunBad_45 (by decide) ?_
            refine g_ireturn X E (by decide) dX4_isRunBad_46 (by decide) (by decide) ?_
            refine ⟨_, rfl, ?_, rfl⟩
            rw [← hf, fBad]
            subst_vars
            simp_all [bz, -Int32.not_lt]
        · skip
          exact absurd h5 (f27 _ ha)
  refine g_iconst (v := 3) X dX4_isRunBad_0 (by decide) ?_
  refine g_istore_n (lv' := [(3, .int 3), (0, .ref (ad 4 r 0)), (1, .int x), (2, .int w)]) X dX4_isRunBad_1 (by decide) rfl ?_
  refine g_iconst (v := 0) X dX4_isRunBad_2 (by decide) ?_
  refine g_istore (lv' := [(4, .int 0), (3, .int 3), (0, .ref (ad 4 r 0)), (1, .int x), (2, .int w)]) X dX4_isRunBad_3 (by decide) rfl ?_
  refine g_aload_n X dX4_isRunBad_5 rfl ?_
  refine g_iload_n X dX4_isRunBad_6 rfl ?_
  refine gp_V X RM lm_X4_36 (c_X4_next G hR hl hB hx hj) cl_X4 hR hl rfl rfl rfl (Nat.le_of_ble_eq_true rfl) (by decide) (by decide) dX4_isRunBad_7 (fun v hz q => ?_) (fun _ _ q => q.elim)
  obtain ⟨x7, rfl, e7, rfl⟩ := q
  refine GJ.seq (st' := [.int x7]) rfl ?_
  refine g_istore (lv' := [(5, .int x7), (4, .int 0), (3, .int 3), (0, .ref (ad 4 r 0)), (1, .int x), (2, .int w)]) X dX4_isRunBad_10 (by decide) rfl ?_
  refine g_iconst (v := 0) X dX4_isRunBad_12 (by decide) ?_
  refine g_istore (lv' := [(6, .int 0), (5, .int x7), (4, .int 0), (3, .int 3), (0, .ref (ad 4 r 0)), (1, .int x), (2, .int w)]) X dX4_isRunBad_13 (by decide) rfl ?_
  refine GJ.pick [0, 1, 2, 3, 6, 5, 4] rfl ?_
  exact L (pnB P r) 0 (fNx (pnB P r) j) 3 0 x7 0 (by omega) (fNx_lt hj) rfl e7 rfl
set_option maxHeartbeats 4000000 in
set_option maxRecDepth 100000 in
theorem c_X4_canBeClosed {Z : gEnv} {ad : gAd} {P : gP} {h : gH} (G : gG Z) (hR : gRep Z ad P h) {r : Nat} (hl : gLive P 4 r 0) (hB : pnB P r ≤ 12) : gMet Z yX4_canBeClosed cX4_canBeClosed 7 ((Option.some FieldType.boolean)) 2 0 0 [.ref (ad 4 r 0)] h (qI h (fun y => (y = 0 ∨ y = 1) ∧ (y = 1 → 4 ≤ pnB P r ∧ pI P 0 r 0 0 = 115))) (qN) := by
  refine g_enter (lv := [(0, .ref (ad 4 r 0))]) G.2 (by decide +kernel) (Nat.le_of_ble_eq_true rfl) rfl (fun Γ X Nt E RM => ?_)
  have L : ∀ (m : Nat) (k : Nat) (x1 x2 x5 : Int32) (hm : m + k = 12) (h5 : x5 = nI k), GJ Z Γ h 0 0 16 [(5, .int x5), (4, .int 12), (3, .ref (ad 10 r 0)), (2, .int x2), (1, .int x1), (0, .ref (ad 4 r 0))] [] := by
    intro m
    induction m with
    | zero =>
      intro k x1 x2 x5 hm h5
      refine g_iload X dX4_canBeClosed_16 rfl ?_
      refine g_iload X dX4_canBeClosed_18 rfl ?_
      refine g_icmp_ge 66 X dX4_canBeClosed_20 (by decide) (fun c20 => ?_) (fun c20 => ?_)
      · skip
        refine g_aload_n X dX4_canBeClosed_66 rfl ?_
        refine g_iconst (v := 0) X dX4_canBeClosed_67 (by decide) ?_
        refine gp_V X RM lm_X4_28 (c_X4_blockOrNull G hR hl hB) cl_X4 hR hl rfl rfl rfl (Nat.le_of_ble_eq_true rfl) (by decide) (by decide) dX4_canBeClosed_68 (fun v hz q => ?_) (fun _ _ q => q.elim)
        obtain ⟨w68, rfl, e68, rfl⟩ := q
        rcases e68 with ⟨j68, f68, k68, rfl⟩ | ⟨rfl, f68⟩
        · skip
          obtain rfl : 0 = j68 := (nI_eq (a := 0) (by omega) (by omega)).mp f68
          have hl68 : gLive P 0 r 0 := ⟨(hl).1, k68⟩
          refine GJ.seq (st' := [.ref (ad 0 r 0)]) rfl ?_
          refine g_astore_n (lv' := [(3, .ref (ad 0 r 0)), (5, .int x5), (4, .int 12), (2, .int x2), (1, .int x1), (0, .ref (ad 4 r 0))]) X dX4_canBeClosed_71 (by decide) rfl ?_
          refine g_aload_n X dX4_canBeClosed_72 rfl ?_
          refine gp_geti (j := 1) X hR hl cl_X4 lk_X4_17 rfl (by decide) rfl rfl dX4_canBeClosed_73 (fun x73 e73 => ?_)
          refine g_iconst (v := 4) X dX4_canBeClosed_76 (by decide) ?_
          refine g_icmp_lt 106 X dX4_canBeClosed_77 (by decide) (fun c77 => ?_) (fun c77 => ?_)
          · skip
            refine g_iconst (v := 0) X dX4_canBeClosed_106 (by decide) ?_
            refine g_ireturn X E (by decide) dX4_canBeClosed_107 (by decide) (by decide) ?_
            refine ⟨_, rfl, ⟨Or.inl rfl, fun hh => absurd hh (by decide)⟩, rfl⟩
          · skip
            refine g_aload_n X dX4_canBeClosed_80 rfl ?_
            refine g_ifnull X dX4_canBeClosed_81 ?_
            refine g_aload_n X dX4_canBeClosed_84 rfl ?_
            refine gp_geti (j := 0) X hR hl68 cl_X0 lk_X4_21 rfl (by decide) rfl rfl dX4_canBeClosed_85 (fun x85 e85 => ?_)
            refine g_bipush (v := 115) X dX4_canBeClosed_88 (by decide) ?_
            refine g_icmp_ne 106 X dX4_canBeClosed_90 (by decide) (fun c90 => ?_) (fun c90 => ?_)
            · skip
              refine g_iconst (v := 0) X dX4_canBeClosed_106 (by decide) ?_
              refine g_ireturn X E (by decide) dX4_canBeClosed_107 (by decide) (by decide) ?_
              refine ⟨_, rfl, ⟨Or.inl rfl, fun hh => absurd hh (by decide)⟩, rfl⟩
            · skip
              refine g_iload_n X dX4_canBeClosed_93 rfl ?_
              refine g_iconst (v := 1) X dX4_canBeClosed_94 (by decide) ?_
              refine g_icmp_ne 106 X dX4_canBeClosed_95 (by decide) (fun c95 => ?_) (fun c95 => ?_)
              · skip
                refine g_iconst (v := 0) X dX4_canBeClosed_106 (by decide) ?_
                refine g_ireturn X E (by decide) dX4_canBeClosed_107 (by decide) (by decide) ?_
                refine ⟨_, rfl, ⟨Or.inl rfl, fun hh => absurd hh (by decide)⟩, rfl⟩
              · skip
                refine g_iload_n X dX4_canBeClosed_98 rfl ?_
                refine g_if_ne 106 X dX4_canBeClosed_99 (by decide) (fun c99 => ?_) (fun c99 => ?_)
                · skip
                  refine g_iconst (v := 0) X dX4_canBeClosed_106 (by decide) ?_
                  refine g_ireturn X E (by decide) dX4_canBeClosed_107 (by decide) (by decide) ?_
                  refine ⟨_, rfl, ⟨Or.inl rfl, fun hh => absurd hh (by decide)⟩, rfl⟩
                · skip
                  refine g_iconst (v := 1) X dX4_canBeClosed_102 (by decide) ?_
                  refine g_goto 107 X dX4_canBeClosed_103 (by decide) ?_
                  refine g_ireturn X E (by decide) dX4_canBeClosed_107 (by decide) (by decide) ?_
                  refine ⟨_, rfl, ⟨Or.inr rfl, fun _ => ⟨?_, by rw [← e85]; exact c90⟩⟩, rfl⟩
                  rcases Nat.lt_or_ge (pnB P r) 4 with q | q
                  · exact absurd (by rw [e73]; exact nI_lt q (by decide)) c77
                  · exact q
        · skip
          refine GJ.seq (st' := [.null]) rfl ?_
          refine g_astore_nN (lv' := [(3, .null), (5, .int x5), (4, .int 12), (2, .int x2), (1, .int x1), (0, .ref (ad 4 r 0))]) X dX4_canBeClosed_71 (by decide) rfl ?_
          refine g_aload_n X dX4_canBeClosed_72 rfl ?_
          refine gp_geti (j := 1) X hR hl cl_X4 lk_X4_17 rfl (by decide) rfl rfl dX4_canBeClosed_73 (fun x73 e73 => ?_)
          refine g_iconst (v := 4) X dX4_canBeClosed_76 (by decide) ?_
          refine g_icmp_lt 106 X dX4_canBeClosed_77 (by decide) (fun c77 => ?_) (fun c77 => ?_)
          · skip
            refine g_iconst (v := 0) X dX4_canBeClosed_106 (by decide) ?_
            refine g_ireturn X E (by decide) dX4_canBeClosed_107 (by decide) (by decide) ?_
            refine ⟨_, rfl, ⟨Or.inl rfl, fun hh => absurd hh (by decide)⟩, rfl⟩
          · skip
            refine g_aload_nN X dX4_canBeClosed_80 rfl ?_
            refine g_ifnullN 106 X dX4_canBeClosed_81 (by decide) ?_
            refine g_iconst (v := 0) X dX4_canBeClosed_106 (by decide) ?_
            refine g_ireturn X E (by decide) dX4_canBeClosed_107 (by decide) (by decide) ?_
            refine ⟨_, rfl, ⟨Or.inl rfl, fun hh => absurd hh (by decide)⟩, rfl⟩
      · skip
        exact absurd c20 (by rw [h5]; exact nI_nlt (b := 12) (by omega) (by omega))
    | succ m ih =>
      intro k x1 x2 x5 hm h5
      refine g_iload X dX4_canBeClosed_16 rfl ?_
      refine g_iload X dX4_canBeClosed_18 rfl ?_
      refine g_icmp_ge 66 X dX4_canBeClosed_20 (by decide) (fun c20 => ?_) (fun c20 => ?_)
      · skip
        exact absurd (by rw [h5]; exact nI_lt (b := 12) (by omega) (by omega)) c20
      · skip
        refine g_aload_n X dX4_canBeClosed_23 rfl ?_
        refine g_iload X dX4_canBeClosed_24 rfl ?_
        refine gp_aald_if (j := k) X hR hl G.t3 rfl h5 (by omega) (by decide) dX4_canBeClosed_26 (fun h26 => ?_) (fun h26 => ?_)
        · skip
          have hl26 : gLive P 0 r k := ⟨(hl).1, h26⟩
          refine g_astore (lv' := [(6, .ref (ad 0 r k)), (5, .int x5), (4, .int 12), (3, .ref (ad 10 r 0)), (2, .int x2), (1, .int x1), (0, .ref (ad 4 r 0))]) X dX4_canBeClosed_27 (by decide) rfl ?_
          refine g_aload X dX4_canBeClosed_29 rfl ?_
          refine g_ifnull X dX4_canBeClosed_31 ?_
          refine g_iload_n X dX4_canBeClosed_34 rfl ?_
          refine g_aload X dX4_canBeClosed_35 rfl ?_
          refine gp_geti (j := 0) X hR hl26 cl_X0 lk_X4_21 rfl (by decide) rfl rfl dX4_canBeClosed_37 (fun x37 e37 => ?_)
          refine g_bipush (v := 115) X dX4_canBeClosed_40 (by decide) ?_
          refine g_icmp_ne 49 X dX4_canBeClosed_42 (by decide) (fun c42 => ?_) (fun c42 => ?_)
          · skip
            refine g_iconst (v := 0) X dX4_canBeClosed_49 (by decide) ?_
            refine g_iadd X dX4_canBeClosed_50 (fun x50 e50 => ?_)
            refine g_istore_n (lv' := [(1, .int x50), (6, .ref (ad 0 r k)), (5, .int x5), (4, .int 12), (3, .ref (ad 10 r 0)), (2, .int x2), (0, .ref (ad 4 r 0))]) X dX4_canBeClosed_51 (by decide) rfl ?_
            refine g_iload_n X dX4_canBeClosed_52 rfl ?_
            refine g_aload X dX4_canBeClosed_53 rfl ?_
            refine gp_geti (j := 2) X hR hl26 cl_X0 lk_X4_25 rfl (by decide) rfl rfl dX4_canBeClosed_55 (fun x55 e55 => ?_)
            refine g_iadd X dX4_canBeClosed_58 (fun x58 e58 => ?_)
            refine g_istore_n (lv' := [(2, .int x58), (1, .int x50), (6, .ref (ad 0 r k)), (5, .int x5), (4, .int 12), (3, .ref (ad 10 r 0)), (0, .ref (ad 4 r 0))]) X dX4_canBeClosed_59 (by decide) rfl ?_
            refine gp_iinc 3 X dX4_canBeClosed_60 rfl (by decide) (fun x60 e60 => ?_)
            refine GJ.leq (lv' := [(5, .int x60), (2, .int x58), (1, .int x50), (6, .ref (ad 0 r k)), (4, .int 12), (3, .ref (ad 10 r 0)), (0, .ref (ad 4 r 0))]) rfl ?_
            refine g_goto 16 X dX4_canBeClosed_63 (by decide) ?_
            refine GJ.pick [0, 4, 5, 1, 2, 6] rfl ?_
            exact ih (k + 1) x50 x58 x60 (by omega) (by rw [e60, h5]; exact nI_1 k)
          · skip
            refine g_iconst (v := 1) X dX4_canBeClosed_45 (by decide) ?_
            refine g_goto 50 X dX4_canBeClosed_46 (by decide) ?_
            refine g_iadd X dX4_canBeClosed_50 (fun x50 e50 => ?_)
            refine g_istore_n (lv' := [(1, .int x50), (6, .ref (ad 0 r k)), (5, .int x5), (4, .int 12), (3, .ref (ad 10 r 0)), (2, .int x2), (0, .ref (ad 4 r 0))]) X dX4_canBeClosed_51 (by decide) rfl ?_
            refine g_iload_n X dX4_canBeClosed_52 rfl ?_
            refine g_aload X dX4_canBeClosed_53 rfl ?_
            refine gp_geti (j := 2) X hR hl26 cl_X0 lk_X4_25 rfl (by decide) rfl rfl dX4_canBeClosed_55 (fun x55 e55 => ?_)
            refine g_iadd X dX4_canBeClosed_58 (fun x58 e58 => ?_)
            refine g_istore_n (lv' := [(2, .int x58), (1, .int x50), (6, .ref (ad 0 r k)), (5, .int x5), (4, .int 12), (3, .ref (ad 10 r 0)), (0, .ref (ad 4 r 0))]) X dX4_canBeClosed_59 (by decide) rfl ?_
            refine gp_iinc 3 X dX4_canBeClosed_60 rfl (by decide) (fun x60 e60 => ?_)
            refine GJ.leq (lv' := [(5, .int x60), (2, .int x58), (1, .int x50), (6, .ref (ad 0 r k)), (4, .int 12), (3, .ref (ad 10 r 0)), (0, .ref (ad 4 r 0))]) rfl ?_
            refine g_goto 16 X dX4_canBeClosed_63 (by decide) ?_
            refine GJ.pick [0, 4, 5, 1, 2, 6] rfl ?_
            exact ih (k + 1) x50 x58 x60 (by omega) (by rw [e60, h5]; exact nI_1 k)
        · skip
          refine g_astoreN (lv' := [(6, .null), (5, .int x5), (4, .int 12), (3, .ref (ad 10 r 0)), (2, .int x2), (1, .int x1), (0, .ref (ad 4 r 0))]) X dX4_canBeClosed_27 (by decide) rfl ?_
          refine g_aloadN X dX4_canBeClosed_29 rfl ?_
          refine g_ifnullN 60 X dX4_canBeClosed_31 (by decide) ?_
          refine gp_iinc 1 X dX4_canBeClosed_60 rfl (by decide) (fun x60 e60 => ?_)
          refine GJ.leq (lv' := [(5, .int x60), (6, .null), (4, .int 12), (3, .ref (ad 10 r 0)), (2, .int x2), (1, .int x1), (0, .ref (ad 4 r 0))]) rfl ?_
          refine g_goto 16 X dX4_canBeClosed_63 (by decide) ?_
          refine GJ.pick [0, 2, 3, 4, 5, 6] rfl ?_
          exact ih (k + 1) x1 x2 x60 (by omega) (by rw [e60, h5]; exact nI_1 k)
  refine g_iconst (v := 0) X dX4_canBeClosed_0 (by decide) ?_
  refine g_istore_n (lv' := [(1, .int 0), (0, .ref (ad 4 r 0))]) X dX4_canBeClosed_1 (by decide) rfl ?_
  refine g_iconst (v := 0) X dX4_canBeClosed_2 (by decide) ?_
  refine g_istore_n (lv' := [(2, .int 0), (1, .int 0), (0, .ref (ad 4 r 0))]) X dX4_canBeClosed_3 (by decide) rfl ?_
  refine g_aload_n X dX4_canBeClosed_4 rfl ?_
  refine gp_get (j := 0) (v := .ref (ad 10 r 0)) X hR hl cl_X4 lk_X4_11 rfl (by decide) rfl rfl dX4_canBeClosed_5 ?_
  refine g_astore_n (lv' := [(3, .ref (ad 10 r 0)), (2, .int 0), (1, .int 0), (0, .ref (ad 4 r 0))]) X dX4_canBeClosed_8 (by decide) rfl ?_
  refine g_aload_n X dX4_canBeClosed_9 rfl ?_
  refine gp_alen (v := 12) X hR hl G.t3 rfl rfl dX4_canBeClosed_10 ?_
  refine g_istore (lv' := [(4, .int 12), (3, .ref (ad 10 r 0)), (2, .int 0), (1, .int 0), (0, .ref (ad 4 r 0))]) X dX4_canBeClosed_11 (by decide) rfl ?_
  refine g_iconst (v := 0) X dX4_canBeClosed_13 (by decide) ?_
  refine g_istore (lv' := [(5, .int 0), (4, .int 12), (3, .ref (ad 10 r 0)), (2, .int 0), (1, .int 0), (0, .ref (ad 4 r 0))]) X dX4_canBeClosed_14 (by decide) rfl ?_
  exact L 12 0 0 0 0 rfl rfl
set_option maxHeartbeats 4000000 in
set_option maxRecDepth 100000 in
theorem c_X4_countStops {Z : gEnv} {ad : gAd} {P : gP} {h : gH} (G : gG Z) (hR : gRep Z ad P h) {r : Nat} (hl : gLive P 4 r 0) (hB : pnB P r ≤ 12) : gMet Z yX4_countStops cX4_countStops 6 ((Option.some FieldType.int)) 2 0 0 [.ref (ad 4 r 0)] h (qI h (fun _ => True)) (qN) := by
  refine g_enter (lv := [(0, .ref (ad 4 r 0))]) G.2 (by decide +kernel) (Nat.le_of_ble_eq_true rfl) rfl (fun Γ X Nt E RM => ?_)
  have L : ∀ (m : Nat) (k : Nat) (x1 x4 : Int32) (hm : m + k = 12) (h4 : x4 = nI k), GJ Z Γ h 0 0 13 [(4, .int x4), (3, .int 12), (2, .ref (ad 10 r 0)), (1, .int x1), (0, .ref (ad 4 r 0))] [] := by
    intro m
    induction m with
    | zero =>
      intro k x1 x4 hm h4
      refine g_iload X dX4_countStops_13 rfl ?_
      refine g_iload_n X dX4_countStops_15 rfl ?_
      refine g_icmp_ge 47 X dX4_countStops_16 (by decide) (fun c16 => ?_) (fun c16 => ?_)
      · skip
        refine g_iload_n X dX4_countStops_47 rfl ?_
        refine g_ireturn X E rfl dX4_countStops_48 (by decide) (by decide) ?_
        exact ⟨_, rfl, trivial, rfl⟩
      · skip
        exact absurd c16 (by rw [h4]; exact nI_nlt (b := 12) (by omega) (by omega))
    | succ m ih =>
      intro k x1 x4 hm h4
      refine g_iload X dX4_countStops_13 rfl ?_
      refine g_iload_n X dX4_countStops_15 rfl ?_
      refine g_icmp_ge 47 X dX4_countStops_16 (by decide) (fun c16 => ?_) (fun c16 => ?_)
      · skip
        exact absurd (by rw [h4]; exact nI_lt (b := 12) (by omega) (by omega)) c16
      · skip
        refine g_aload_n X dX4_countStops_19 rfl ?_
        refine g_iload X dX4_countStops_20 rfl ?_
        refine gp_aald_if (j := k) X hR hl G.t3 rfl h4 (by omega) (by decide) dX4_countStops_22 (fun h22 => ?_) (fun h22 => ?_)
        · skip
          have hl22 : gLive P 0 r k := ⟨(hl).1, h22⟩
          refine g_astore (lv' := [(5, .ref (ad 0 r k)), (4, .int x4), (3, .int 12), (2, .ref (ad 10 r 0)), (1, .int x1), (0, .ref (ad 4 r 0))]) X dX4_countStops_23 (by decide) rfl ?_
          refine g_aload X dX4_countStops_25 rfl ?_
          refine g_ifnull X dX4_countStops_27 ?_
          refine g_aload X dX4_countStops_30 rfl ?_
          refine gp_V X RM lm_X4_32 (c_X0_isStop G hR hl22) cl_X0 hR hl22 rfl rfl rfl (Nat.le_of_ble_eq_true rfl) (by decide) (by decide) dX4_countStops_32 (fun v hz q => ?_) (fun _ _ q => q.elim)
          obtain ⟨x32, rfl, e32, rfl⟩ := q
          refine GJ.seq (st' := [.int x32]) rfl ?_
          refine g_if_eq 41 X dX4_countStops_35 (by decide) (fun c35 => ?_) (fun c35 => ?_)
          · skip
            refine gp_iinc 1 X dX4_countStops_41 rfl (by decide) (fun x41 e41 => ?_)
            refine GJ.leq (lv' := [(4, .int x41), (5, .ref (ad 0 r k)), (3, .int 12), (2, .ref (ad 10 r 0)), (1, .int x1), (0, .ref (ad 4 r 0))]) rfl ?_
            refine g_goto 13 X dX4_countStops_44 (by decide) ?_
            refine GJ.pick [0, 2, 3, 4, 5] rfl ?_
            exact ih (k + 1) x1 x41 (by omega) (by rw [e41, h4]; exact nI_1 k)
          · skip
            refine gp_iinc 4 X dX4_countStops_38 rfl (by decide) (fun x38 e38 => ?_)
            refine GJ.leq (lv' := [(1, .int x38), (5, .ref (ad 0 r k)), (4, .int x4), (3, .int 12), (2, .ref (ad 10 r 0)), (0, .ref (ad 4 r 0))]) rfl ?_
            refine gp_iinc 2 X dX4_countStops_41 rfl (by decide) (fun x41 e41 => ?_)
            refine GJ.leq (lv' := [(4, .int x41), (1, .int x38), (5, .ref (ad 0 r k)), (3, .int 12), (2, .ref (ad 10 r 0)), (0, .ref (ad 4 r 0))]) rfl ?_
            refine g_goto 13 X dX4_countStops_44 (by decide) ?_
            refine GJ.pick [0, 3, 4, 1, 5] rfl ?_
            exact ih (k + 1) x38 x41 (by omega) (by rw [e41, h4]; exact nI_1 k)
        · skip
          refine g_astoreN (lv' := [(5, .null), (4, .int x4), (3, .int 12), (2, .ref (ad 10 r 0)), (1, .int x1), (0, .ref (ad 4 r 0))]) X dX4_countStops_23 (by decide) rfl ?_
          refine g_aloadN X dX4_countStops_25 rfl ?_
          refine g_ifnullN 41 X dX4_countStops_27 (by decide) ?_
          refine gp_iinc 1 X dX4_countStops_41 rfl (by decide) (fun x41 e41 => ?_)
          refine GJ.leq (lv' := [(4, .int x41), (5, .null), (3, .int 12), (2, .ref (ad 10 r 0)), (1, .int x1), (0, .ref (ad 4 r 0))]) rfl ?_
          refine g_goto 13 X dX4_countStops_44 (by decide) ?_
          refine GJ.pick [0, 2, 3, 4, 5] rfl ?_
          exact ih (k + 1) x1 x41 (by omega) (by rw [e41, h4]; exact nI_1 k)
  refine g_iconst (v := 0) X dX4_countStops_0 (by decide) ?_
  refine g_istore_n (lv' := [(1, .int 0), (0, .ref (ad 4 r 0))]) X dX4_countStops_1 (by decide) rfl ?_
  refine g_aload_n X dX4_countStops_2 rfl ?_
  refine gp_get (j := 0) (v := .ref (ad 10 r 0)) X hR hl cl_X4 lk_X4_11 rfl (by decide) rfl rfl dX4_countStops_3 ?_
  refine g_astore_n (lv' := [(2, .ref (ad 10 r 0)), (1, .int 0), (0, .ref (ad 4 r 0))]) X dX4_countStops_6 (by decide) rfl ?_
  refine g_aload_n X dX4_countStops_7 rfl ?_
  refine gp_alen (v := 12) X hR hl G.t3 rfl rfl dX4_countStops_8 ?_
  refine g_istore_n (lv' := [(3, .int 12), (2, .ref (ad 10 r 0)), (1, .int 0), (0, .ref (ad 4 r 0))]) X dX4_countStops_9 (by decide) rfl ?_
  refine g_iconst (v := 0) X dX4_countStops_10 (by decide) ?_
  refine g_istore (lv' := [(4, .int 0), (3, .int 12), (2, .ref (ad 10 r 0)), (1, .int 0), (0, .ref (ad 4 r 0))]) X dX4_countStops_11 (by decide) rfl ?_
  exact L 12 0 0 0 rfl rfl
end GRING
