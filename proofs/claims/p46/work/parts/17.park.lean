/-! the park: its methods -/
section GPARK
/-- what running the park's methods asks of a state -/
def Wf (P : gP) : Prop := (pnR P ≤ 4 ∧ pnG P ≤ 60) ∧ (∀ r, r < pnR P → (pnB P r ≤ 12 ∧ pnT P r ≤ 4 ∧ gChrs P r ∧ (¬ pI P 4 r 0 2 = 0 → 0 < pnB P r)) ∧ (∀ i, i < pnT P r → (∃ b, b < pnB P r ∧ pI P 5 r i 3 = nI b) ∧ (∃ l, Tr P r i l) ∧ gChr (pI P 5 r i 5)) ∧ ∀ q, q < 3 → ∃ l, Ln P r q l) ∧ ∀ g, g < pnG P → gChr (pI P 1 g 0 6)
theorem Wf.nR {P : gP} (h : Wf P) : pnR P ≤ 4 := h.1.1
theorem Wf.nG {P : gP} (h : Wf P) : pnG P ≤ 60 := h.1.2
theorem Wf.nB {P : gP} (h : Wf P) {r : Nat} (hr : r < pnR P) : pnB P r ≤ 12 := (h.2.1 r hr).1.1
theorem Wf.nT {P : gP} (h : Wf P) {r : Nat} (hr : r < pnR P) : pnT P r ≤ 4 := (h.2.1 r hr).1.2.1
theorem Wf.chr {P : gP} (h : Wf P) {r : Nat} (hr : r < pnR P) : gChrs P r := (h.2.1 r hr).1.2.2.1
theorem Wf.cl {P : gP} (h : Wf P) {r : Nat} (hr : r < pnR P) : ¬ pI P 4 r 0 2 = 0 → 0 < pnB P r := (h.2.1 r hr).1.2.2.2
theorem Wf.blk {P : gP} (h : Wf P) {r i : Nat} (hr : r < pnR P) (hi : i < pnT P r) : ∃ b, b < pnB P r ∧ pI P 5 r i 3 = nI b := ((h.2.1 r hr).2.1 i hi).1
theorem Wf.tr {P : gP} (h : Wf P) {r i : Nat} (hr : r < pnR P) (hi : i < pnT P r) : ∃ l, Tr P r i l := ((h.2.1 r hr).2.1 i hi).2.1
theorem Wf.tst {P : gP} (h : Wf P) {r i : Nat} (hr : r < pnR P) (hi : i < pnT P r) : gChr (pI P 5 r i 5) := ((h.2.1 r hr).2.1 i hi).2.2
theorem Wf.ln {P : gP} (h : Wf P) {r q : Nat} (hr : r < pnR P) (hq : q < 3) : ∃ l, Ln P r q l := (h.2.1 r hr).2.2 q hq
theorem Wf.plc {P : gP} (h : Wf P) {g : Nat} (hg : g < pnG P) : gChr (pI P 1 g 0 6) := h.2.2 g hg
abbrev eREF : String := "java/lang/UnsupportedOperationException"
abbrev eIDX : String := "java/lang/IndexOutOfBoundsException"
abbrev eILL : String := "java/lang/IllegalArgumentException"
abbrev eSTA : String := "java/lang/IllegalStateException"
/-- how near lightning is, and what keeps the train in the station -/
def fLt (P : gP) : Int32 := if pI P 6 0 0 8 = 0 ∨ 15 < pI P 6 0 0 7 - pI P 6 0 0 9 then 0 else 1
def fKp (P : gP) (r : Nat) : Int32 := fKSt P r (pI P 6 0 0 6) (fLt P)
def fGet (P : gP) (g : Nat) (k : Int32) : Int32 := if k = 109 then pI P 1 g 0 0 else if k = 104 then pI P 1 g 0 3 else pI P 1 g 0 4
def fSns (P : gP) (r b : Nat) (p w : Int32) : gP := if p = 0 then uI P 0 r b 4 w else uI P 0 r b 5 w
theorem fSns_2 (P : gP) (r b : Nat) (p w : Int32) : (fSns P r b p w).2 = P.2 := by unfold fSns; split <;> rfl
theorem gChrs_sns {P : gP} {r b : Nat} {p w : Int32} (h : gChrs P r) (hw : gChr w) : gChrs (fSns P r b p w) r := by
  intro b2 hb2
  have hb3 : b2 < pnB P r := by have e : pnB (fSns P r b p w) r = pnB P r := by unfold fSns; split <;> rfl
                                rw [← e]; exact hb2
  have h2 := h b2 hb3
  unfold fSns
  split
  · simp only [pI_uI]
    refine ⟨?_, ?_⟩ <;> split <;> first | exact hw | exact h2.1 | exact h2.2
  · simp only [pI_uI]
    refine ⟨?_, ?_⟩ <;> split <;> first | exact hw | exact h2.1 | exact h2.2
def fMI (P : gP) : Nat → Nat → Int64 → Int64
  | 0, _, a => a
  | m + 1, k, a => fMI P m (k + 1) (if k < pnG P ∧ ¬ pI P 1 k 0 6 = 111 then a + (pI P 1 k 0 0).toInt64 else a)
def ctL (LL : Nat → Nat → List Nat) (g : Nat) : Nat → Nat
  | 0 => 0
  | k + 1 => ctL LL g k + ((LL k 0).count g + (LL k 1).count g + (LL k 2).count g)
def ctR (RR : Nat → Nat → List Nat) (g : Nat) : Nat → Nat
  | 0 => 0
  | k + 1 => ctR RR g k + ctT (RR k) g 4
/-- who waits and who rides, as lists -/
def Wit (P : gP) (LL RR : Nat → Nat → List Nat) : Prop := (∀ r q, r < pnR P → q < 3 → Ln P r q (LL r q)) ∧ (∀ r q, ¬ r < pnR P → LL r q = []) ∧ (∀ r i, r < pnR P → i < pnT P r → Tr P r i (RR r i)) ∧ ∀ r i, ¬ (r < pnR P ∧ i < pnT P r) → RR r i = []
theorem mv_2 {P P2 : gP} {r i b : Nat} {l : List Nat} (h : mvRel P P2 r i b l) : P2.2.2.2 = P.2.2.2 := by
  rcases h with h | h | ⟨_, h⟩ | ⟨_, _, _, _, h⟩
  · rw [h]; rfl
  · rw [h]; rfl
  · rw [h]
    unfold fStand
    split
    · show (fFinA _ _ l).2.2.2 = _
      rw [(fFinA_same _ _ _).1]; rfl
    · rfl
  · rw [h]; rfl
theorem fStand_2 {P : gP} {r i : Nat} {l : List Nat} {s : Int32} : (fStand P r i l s).2.2.2 = P.2.2.2 := by
  unfold fStand
  split
  · show (fFinA _ _ l).2.2.2 = _
    rw [(fFinA_same _ _ _).1]; rfl
  · rfl
theorem gLive_3 {P P' : gP} (h : P'.2.2.2 = P.2.2.2) (k r i : Nat) : gLive P' k r i = gLive P k r i := by
  have e : P' = (P'.1, P'.2.1, P'.2.2.1, P.2.2.2) := by rw [← h]
  rw [e]
  rfl
theorem gLive_fStand {P : gP} {r i : Nat} {l : List Nat} {s : Int32} {k r' i' : Nat} : gLive (fStand P r i l s) k r' i' = gLive P k r' i' := gLive_3 fStand_2 _ _ _
theorem pI_fStand {P : gP} {r i : Nat} {l : List Nat} {s : Int32} {k r' i' s' : Nat} (h1 : k ≠ 1) (h5 : k ≠ 5) : pI (fStand P r i l s) k r' i' s' = pI P k r' i' s' := by
  unfold fStand
  split
  · show pI (uI (fFinA _ _ l) 5 r i 2 _) k r' i' s' = _
    rw [pI_uI, if_neg (fun hh => h5 hh.1), (fFinA_same _ _ _).2 _ _ _ _ h1]
    simp [fStand0, pI_uI, h5]
  · simp [fStand0, pI_uI, h5]
theorem pI_us {P : gP} {k r i s k0 r0 i0 s0 : Nat} {v : Int32} (h : s ≠ s0) : pI (uI P k0 r0 i0 s0 v) k r i s = pI P k r i s := if_neg (fun hh => h hh.2.2.2)
theorem pI_uk {P : gP} {k r i s k0 r0 i0 s0 : Nat} {v : Int32} (h : k ≠ k0) : pI (uI P k0 r0 i0 s0 v) k r i s = pI P k r i s := if_neg (fun hh => h hh.1)
theorem pI_fJoin {P : gP} {g r q : Nat} {l : List Nat} {p : Int32} {k r' i' s' : Nat} (h1 : k ≠ 1) (h2 : k ≠ 2) : pI (fJoin P g r q l p) k r' i' s' = pI P k r' i' s' := by
  simp [fJoin, pI_uI, pI_uGL, pI_sLn, h1, h2]
theorem fJoin_sz {P : gP} {g r q : Nat} {l : List Nat} {p : Int32} : pI (fJoin P g r q l p) 2 r q 1 = nI (l.length + 1) := by
  simp [fJoin, pI_uI, pI_uGL, pI_sLn]
theorem nR_2 {P P2 : gP} (h : P2.2.2.2 = P.2.2.2) : pnR P2 = pnR P := congrArg (fun x => x.2.2.1) h
theorem nG_2 {P P2 : gP} (h : P2.2.2.2 = P.2.2.2) : pnG P2 = pnG P := congrArg (fun x => x.2.2.2.1) h
theorem nB_2 {P P2 : gP} (h : P2.2.2.2 = P.2.2.2) (r : Nat) : pnB P2 r = pnB P r := congrArg (fun x => x.2.2.2.2.1 r) h
theorem nT_2 {P P2 : gP} (h : P2.2.2.2 = P.2.2.2) (r : Nat) : pnT P2 r = pnT P r := congrArg (fun x => x.2.2.2.2.2.1 r) h
theorem gChrs_stand {P : gP} {r i : Nat} {l : List Nat} {s : Int32} (h : gChrs P r) : gChrs (fStand P r i l s) r := fun b hb => by
  rw [pI_fStand (by decide) (by decide), pI_fStand (by decide) (by decide)]
  exact h b (by rw [← nB_2 fStand_2]; exact hb)
theorem lcc_X6_337 : Cond.constantLong RX6 337 5 ∈ gT := gT_at 911 (by decide +kernel) (by decide +kernel)
theorem mt_pre {J : gP → Prop} (hJ : ∀ P, J P → Wf P) {Q : gP} {r N R : Nat} (h : J Q ∧ pnR Q = R ∧ pnB Q r = N) (hr : r < R) : mtPre Q r N := by
  obtain ⟨hj, h1, h2⟩ := h
  have hW := hJ Q hj
  have hr' : r < pnR Q := by rw [h1]; exact hr
  exact ⟨⟨hr', rfl⟩, h2, by rw [← h2]; exact hW.nB hr', hW.chr hr', fun i hi => ⟨hW.blk hr' hi, hW.tr hr' hi⟩⟩
set_option maxHeartbeats 4000000 in
set_option maxRecDepth 100000 in
theorem c_X6_isWithin {Z : gEnv} {ad : gAd} {P : gP} {h : gH} (G : gG Z) (hR : gRep Z ad P h) {a b c : Int32} : gMet Z yX6_isWithin cX6_isWithin 3 ((Option.some FieldType.boolean)) 1 0 0 [.int a, .int b, .int c] h (qI h (fun x => x = if ¬ a < b ∧ ¬ c < a then 1 else 0)) (qN) := by
  refine g_enter (lv := [(0, .int a), (1, .int b), (2, .int c)]) G.2 (by decide +kernel) (Nat.le_of_ble_eq_true rfl) rfl (fun Γ X Nt E RM => ?_)
  refine g_iload_n X dX6_isWithin_0 rfl ?_
  refine g_iload_n X dX6_isWithin_1 rfl ?_
  refine g_icmp_lt 14 X dX6_isWithin_2 (by decide) (fun c2 => ?_) (fun c2 => ?_)
  · skip
    refine g_iconst (v := 0) X dX6_isWithin_14 (by decide) ?_
    refine g_ireturn X E (by decide) dX6_isWithin_15 (by decide) (by decide) ?_
    refine ⟨_, rfl, ?_, rfl⟩
    simp_all [-Int32.not_lt]
  · skip
    refine g_iload_n X dX6_isWithin_5 rfl ?_
    refine g_iload_n X dX6_isWithin_6 rfl ?_
    refine g_icmp_gt 14 X dX6_isWithin_7 (by decide) (fun c7 => ?_) (fun c7 => ?_)
    · skip
      refine g_iconst (v := 0) X dX6_isWithin_14 (by decide) ?_
      refine g_ireturn X E (by decide) dX6_isWithin_15 (by decide) (by decide) ?_
      refine ⟨_, rfl, ?_, rfl⟩
      simp_all [-Int32.not_lt]
    · skip
      refine g_iconst (v := 1) X dX6_isWithin_10 (by decide) ?_
      refine g_goto 15 X dX6_isWithin_11 (by decide) ?_
      refine g_ireturn X E (by decide) dX6_isWithin_15 (by decide) (by decide) ?_
      refine ⟨_, rfl, ?_, rfl⟩
      simp_all [-Int32.not_lt]
set_option maxHeartbeats 4000000 in
set_option maxRecDepth 100000 in
theorem c_X6_isBlock {Z : gEnv} {ad : gAd} {P : gP} {h : gH} (G : gG Z) (hR : gRep Z ad P h) {k a b c : Int32} (ha : ¬ a < 1 ∧ ¬ 20 < a) (hb : ¬ b < (-9) ∧ ¬ 9 < b) (hc : ¬ c < 0 ∧ ¬ 9 < c) (hk : (k = 115 ∧ b = 0 ∧ c = 0) ∨ (k = 98 ∧ b = 0 ∧ c = 0) ∨ k = 108 ∨ k = 116) : gMet Z yX6_isBlock cX6_isBlock 4 ((Option.some FieldType.boolean)) 2 0 0 [.int k, .int a, .int b, .int c] h (qI h (fun x => x = 1)) (qN) := by
  refine g_enter (lv := [(0, .int k), (1, .int a), (2, .int b), (3, .int c)]) G.2 (by decide +kernel) (Nat.le_of_ble_eq_true rfl) rfl (fun Γ X Nt E RM => ?_)
  refine g_iload_n X dX6_isBlock_0 rfl ?_
  refine g_iconst (v := 1) X dX6_isBlock_1 (by decide) ?_
  refine g_bipush (v := 20) X dX6_isBlock_2 (by decide) ?_
  refine gp_S X RM lm_X6_25 (c_X6_isWithin G hR) rfl rfl (Nat.le_of_ble_eq_true rfl) (by decide) (by decide) dX6_isBlock_4 (fun v hz q => ?_) (fun _ _ q => q.elim)
  obtain ⟨x4, rfl, e4, rfl⟩ := q
  refine GJ.seq (st' := [.int x4]) rfl ?_
  refine g_if_eq 31 X dX6_isBlock_7 (by decide) (fun c7 => ?_) (fun c7 => ?_)
  · skip
    exact absurd (e4.trans (if_pos ha)) (by rw [c7]; decide)
  · skip
    refine g_iload_n X dX6_isBlock_10 rfl ?_
    refine g_bipush (v := (-9)) X dX6_isBlock_11 (by decide) ?_
    refine g_bipush (v := 9) X dX6_isBlock_13 (by decide) ?_
    refine gp_S X RM lm_X6_25 (c_X6_isWithin G hR) rfl rfl (Nat.le_of_ble_eq_true rfl) (by decide) (by decide) dX6_isBlock_15 (fun v hz q => ?_) (fun _ _ q => q.elim)
    obtain ⟨x15, rfl, e15, rfl⟩ := q
    refine GJ.seq (st' := [.int x15]) rfl ?_
    refine g_if_eq 31 X dX6_isBlock_18 (by decide) (fun c18 => ?_) (fun c18 => ?_)
    · skip
      exact absurd (e15.trans (if_pos hb)) (by rw [c18]; decide)
    · skip
      refine g_iload_n X dX6_isBlock_21 rfl ?_
      refine g_iconst (v := 0) X dX6_isBlock_22 (by decide) ?_
      refine g_bipush (v := 9) X dX6_isBlock_23 (by decide) ?_
      refine gp_S X RM lm_X6_25 (c_X6_isWithin G hR) rfl rfl (Nat.le_of_ble_eq_true rfl) (by decide) (by decide) dX6_isBlock_25 (fun v hz q => ?_) (fun _ _ q => q.elim)
      obtain ⟨x25, rfl, e25, rfl⟩ := q
      refine GJ.seq (st' := [.int x25]) rfl ?_
      refine g_if_ne 33 X dX6_isBlock_28 (by decide) (fun c28 => ?_) (fun c28 => ?_)
      · skip
        refine g_iload_n X dX6_isBlock_33 rfl ?_
        refine g_bipush (v := 115) X dX6_isBlock_34 (by decide) ?_
        refine g_icmp_eq 45 X dX6_isBlock_36 (by decide) (fun c36 => ?_) (fun c36 => ?_)
        · skip
          refine g_iload_n X dX6_isBlock_45 rfl ?_
          refine g_if_ne 57 X dX6_isBlock_46 (by decide) (fun c46 => ?_) (fun c46 => ?_)
          · skip
            refine g_iconst (v := 0) X dX6_isBlock_57 (by decide) ?_
            refine g_ireturn X E (by decide) dX6_isBlock_58 (by decide) (by decide) ?_
            refine ⟨_, rfl, ?_, rfl⟩
            first
            | rfl
            | (exfalso; simp_all)
          · skip
            refine g_iload_n X dX6_isBlock_49 rfl ?_
            refine g_if_ne 57 X dX6_isBlock_50 (by decide) (fun c50 => ?_) (fun c50 => ?_)
            · skip
              refine g_iconst (v := 0) X dX6_isBlock_57 (by decide) ?_
              refine g_ireturn X E (by decide) dX6_isBlock_58 (by decide) (by decide) ?_
              refine ⟨_, rfl, ?_, rfl⟩
              first
              | rfl
              | (exfalso; simp_all)
            · skip
              refine g_iconst (v := 1) X dX6_isBlock_53 (by decide) ?_
              refine g_goto 58 X dX6_isBlock_54 (by decide) ?_
              refine g_ireturn X E (by decide) dX6_isBlock_58 (by decide) (by decide) ?_
              refine ⟨_, rfl, ?_, rfl⟩
              first
              | rfl
              | (exfalso; simp_all)
        · skip
          refine g_iload_n X dX6_isBlock_39 rfl ?_
          refine g_bipush (v := 98) X dX6_isBlock_40 (by decide) ?_
          refine g_icmp_ne 59 X dX6_isBlock_42 (by decide) (fun c42 => ?_) (fun c42 => ?_)
          · skip
            refine g_iload_n X dX6_isBlock_59 rfl ?_
            refine g_bipush (v := 108) X dX6_isBlock_60 (by decide) ?_
            refine g_icmp_eq 71 X dX6_isBlock_62 (by decide) (fun c62 => ?_) (fun c62 => ?_)
            · skip
              refine g_iconst (v := 1) X dX6_isBlock_71 (by decide) ?_
              refine g_goto 76 X dX6_isBlock_72 (by decide) ?_
              refine g_ireturn X E (by decide) dX6_isBlock_76 (by decide) (by decide) ?_
              refine ⟨_, rfl, ?_, rfl⟩
              first
              | rfl
              | (exfalso; simp_all)
            · skip
              refine g_iload_n X dX6_isBlock_65 rfl ?_
              refine g_bipush (v := 116) X dX6_isBlock_66 (by decide) ?_
              refine g_icmp_ne 75 X dX6_isBlock_68 (by decide) (fun c68 => ?_) (fun c68 => ?_)
              · skip
                refine g_iconst (v := 0) X dX6_isBlock_75 (by decide) ?_
                refine g_ireturn X E (by decide) dX6_isBlock_76 (by decide) (by decide) ?_
                refine ⟨_, rfl, ?_, rfl⟩
                first
                | rfl
                | (exfalso; simp_all)
              · skip
                refine g_iconst (v := 1) X dX6_isBlock_71 (by decide) ?_
                refine g_goto 76 X dX6_isBlock_72 (by decide) ?_
                refine g_ireturn X E (by decide) dX6_isBlock_76 (by decide) (by decide) ?_
                refine ⟨_, rfl, ?_, rfl⟩
                first
                | rfl
                | (exfalso; simp_all)
          · skip
            refine g_iload_n X dX6_isBlock_45 rfl ?_
            refine g_if_ne 57 X dX6_isBlock_46 (by decide) (fun c46 => ?_) (fun c46 => ?_)
            · skip
              refine g_iconst (v := 0) X dX6_isBlock_57 (by decide) ?_
              refine g_ireturn X E (by decide) dX6_isBlock_58 (by decide) (by decide) ?_
              refine ⟨_, rfl, ?_, rfl⟩
              first
              | rfl
              | (exfalso; simp_all)
            · skip
              refine g_iload_n X dX6_isBlock_49 rfl ?_
              refine g_if_ne 57 X dX6_isBlock_50 (by decide) (fun c50 => ?_) (fun c50 => ?_)
              · skip
                refine g_iconst (v := 0) X dX6_isBlock_57 (by decide) ?_
                refine g_ireturn X E (by decide) dX6_isBlock_58 (by decide) (by decide) ?_
                refine ⟨_, rfl, ?_, rfl⟩
                first
                | rfl
                | (exfalso; simp_all)
              · skip
                refine g_iconst (v := 1) X dX6_isBlock_53 (by decide) ?_
                refine g_goto 58 X dX6_isBlock_54 (by decide) ?_
                refine g_ireturn X E (by decide) dX6_isBlock_58 (by decide) (by decide) ?_
                refine ⟨_, rfl, ?_, rfl⟩
                first
                | rfl
                | (exfalso; simp_all)
      · skip
        exact absurd (e25.trans (if_pos hc)) (by rw [c28]; decide)
set_option maxHeartbeats 4000000 in
set_option maxRecDepth 100000 in
theorem c_X6_rideAt {Z : gEnv} {ad : gAd} {P : gP} {h : gH} (G : gG Z) (hR : gRep Z ad P h) (hW : Wf P) {x : Int32} {r : Nat} (hx : x = nI r) (hr : r < pnR P) : gMet Z yX6_rideAt cX6_rideAt 3 ((Option.some (FieldType.object "Coasterland$Ride"))) 1 0 0 [.ref (ad 6 0 0), .int x] h (qR h (fun w => w = .ref (ad 3 r 0))) (qN) := by
  refine g_enter (lv := [(0, .ref (ad 6 0 0)), (1, .int x)]) G.2 (by decide +kernel) (Nat.le_of_ble_eq_true rfl) rfl (fun Γ X Nt E RM => ?_)
  refine g_iload_n X dX6_rideAt_0 rfl ?_
  refine g_if_lt 22 X dX6_rideAt_1 (by decide) (fun c1 => ?_) (fun c1 => ?_)
  · skip
    exact absurd c1 (by rw [hx]; exact nI_pos (by have := hW.nR; omega))
  · skip
    refine g_iload_n X dX6_rideAt_4 rfl ?_
    refine g_aload_n X dX6_rideAt_5 rfl ?_
    refine gp_get (j := 0) (v := .ref (ad 7 0 0)) X hR (⟨rfl, rfl⟩) cl_X6 lk_X6_11 rfl (by decide) rfl rfl dX6_rideAt_6 ?_
    refine gp_alen (v := 4) X hR (⟨rfl, rfl⟩) G.t0 rfl rfl dX6_rideAt_9 ?_
    refine g_icmp_ge 22 X dX6_rideAt_10 (by decide) (fun c10 => ?_) (fun c10 => ?_)
    · skip
      exact absurd (by rw [hx]; exact nI_lt (b := 4) (by have := hW.nR; omega) (by decide)) c10
    · skip
      refine g_aload_n X dX6_rideAt_13 rfl ?_
      refine gp_get (j := 0) (v := .ref (ad 7 0 0)) X hR (⟨rfl, rfl⟩) cl_X6 lk_X6_11 rfl (by decide) rfl rfl dX6_rideAt_14 ?_
      refine g_iload_n X dX6_rideAt_17 rfl ?_
      refine gp_aald_if (j := r) X hR (⟨rfl, rfl⟩) G.t0 rfl hx (Nat.lt_of_lt_of_le hr hW.nR) (by decide) dX6_rideAt_18 (fun h18 => ?_) (fun h18 => ?_)
      · skip
        have hl18 : gLive P 3 r 0 := ⟨h18, rfl⟩
        refine g_goto 23 X dX6_rideAt_19 (by decide) ?_
        refine g_astore_n (lv' := [(2, .ref (ad 3 r 0)), (0, .ref (ad 6 0 0)), (1, .int x)]) X dX6_rideAt_23 (by decide) rfl ?_
        refine g_aload_n X dX6_rideAt_24 rfl ?_
        refine g_ifnonnull 39 X dX6_rideAt_25 (by decide) ?_
        refine g_aload_n X dX6_rideAt_39 rfl ?_
        refine g_areturn X E (Or.inr ⟨_, rfl⟩) dX6_rideAt_40 (by decide) (by decide) ?_
        exact ⟨_, rfl, rfl, rfl⟩
      · skip
        exact absurd hr h18
set_option maxHeartbeats 4000000 in
set_option maxRecDepth 100000 in
theorem c_X6_guestAt {Z : gEnv} {ad : gAd} {P : gP} {h : gH} (G : gG Z) (hR : gRep Z ad P h) (hW : Wf P) {y : Int32} {g : Nat} (hy : y = nI g) (hg : g < pnG P) : gMet Z yX6_guestAt cX6_guestAt 3 ((Option.some (FieldType.object "Coasterland$Guest"))) 1 0 0 [.ref (ad 6 0 0), .int y] h (qR h (fun w => w = .ref (ad 1 g 0))) (qN) := by
  refine g_enter (lv := [(0, .ref (ad 6 0 0)), (1, .int y)]) G.2 (by decide +kernel) (Nat.le_of_ble_eq_true rfl) rfl (fun Γ X Nt E RM => ?_)
  refine g_iload_n X dX6_guestAt_0 rfl ?_
  refine g_if_lt 22 X dX6_guestAt_1 (by decide) (fun c1 => ?_) (fun c1 => ?_)
  · skip
    exact absurd c1 (by rw [hy]; exact nI_pos (by have := hW.nG; omega))
  · skip
    refine g_iload_n X dX6_guestAt_4 rfl ?_
    refine g_aload_n X dX6_guestAt_5 rfl ?_
    refine gp_get (j := 4) (v := .ref (ad 9 0 0)) X hR (⟨rfl, rfl⟩) cl_X6 lk_X6_21 rfl (by decide) rfl rfl dX6_guestAt_6 ?_
    refine gp_alen (v := 60) X hR (⟨rfl, rfl⟩) G.t2 rfl rfl dX6_guestAt_9 ?_
    refine g_icmp_ge 22 X dX6_guestAt_10 (by decide) (fun c10 => ?_) (fun c10 => ?_)
    · skip
      exact absurd (by rw [hy]; exact nI_lt (b := 60) (by have := hW.nG; omega) (by decide)) c10
    · skip
      refine g_aload_n X dX6_guestAt_13 rfl ?_
      refine gp_get (j := 4) (v := .ref (ad 9 0 0)) X hR (⟨rfl, rfl⟩) cl_X6 lk_X6_21 rfl (by decide) rfl rfl dX6_guestAt_14 ?_
      refine g_iload_n X dX6_guestAt_17 rfl ?_
      refine gp_aald_if (j := g) X hR (⟨rfl, rfl⟩) G.t2 rfl hy (Nat.lt_of_lt_of_le hg hW.nG) (by decide) dX6_guestAt_18 (fun h18 => ?_) (fun h18 => ?_)
      · skip
        have hl18 : gLive P 1 g 0 := ⟨h18, rfl⟩
        refine g_goto 23 X dX6_guestAt_19 (by decide) ?_
        refine g_astore_n (lv' := [(2, .ref (ad 1 g 0)), (0, .ref (ad 6 0 0)), (1, .int y)]) X dX6_guestAt_23 (by decide) rfl ?_
        refine g_aload_n X dX6_guestAt_24 rfl ?_
        refine g_ifnonnull 39 X dX6_guestAt_25 (by decide) ?_
        refine g_aload_n X dX6_guestAt_39 rfl ?_
        refine g_areturn X E (Or.inr ⟨_, rfl⟩) dX6_guestAt_40 (by decide) (by decide) ?_
        exact ⟨_, rfl, rfl, rfl⟩
      · skip
        exact absurd hg h18
set_option maxHeartbeats 4000000 in
set_option maxRecDepth 100000 in
theorem c_X6_blockAt {Z : gEnv} {ad : gAd} {P : gP} {h : gH} (G : gG Z) (hR : gRep Z ad P h) {r : Nat} (hl3 : gLive P 3 r 0) (hB : pnB P r ≤ 12) {z : Int32} {b : Nat} (hzb : z = nI b) (hb : b < pnB P r) : gMet Z yX6_blockAt cX6_blockAt 3 ((Option.some (FieldType.object "Coasterland$Block"))) 3 0 0 [.ref (ad 3 r 0), .int z] h (qR h (fun w => w = .ref (ad 0 r b))) (qN) := by
  refine g_enter (lv := [(0, .ref (ad 3 r 0)), (1, .int z)]) G.2 (by decide +kernel) (Nat.le_of_ble_eq_true rfl) rfl (fun Γ X Nt E RM => ?_)
  refine g_aload_n X dX6_blockAt_0 rfl ?_
  refine gp_get (j := 3) (v := .ref (ad 4 r 0)) X hR hl3 cl_X3 lk_X6_52 rfl (by decide) rfl rfl dX6_blockAt_1 ?_
  refine g_iload_n X dX6_blockAt_4 rfl ?_
  refine gp_V X RM lm_X6_407 (c_X4_blockOrNull G hR hl3 hB) cl_X4 hR hl3 rfl rfl rfl (Nat.le_of_ble_eq_true rfl) (by decide) (by decide) dX6_blockAt_5 (fun v hz q => ?_) (fun _ _ q => q.elim)
  obtain ⟨w5, rfl, e5, rfl⟩ := q
  rcases e5 with ⟨j5, f5, k5, rfl⟩ | ⟨rfl, f5⟩
  · skip
    obtain rfl : b = j5 := (nI_eq (Nat.lt_of_lt_of_le hb (Nat.le_trans hB (by decide))) (by omega)).mp ((hzb).symm.trans f5)
    have hl5 : gLive P 0 r b := ⟨(hl3).1, k5⟩
    refine GJ.seq (st' := [.ref (ad 0 r b)]) rfl ?_
    refine g_astore_n (lv' := [(2, .ref (ad 0 r b)), (0, .ref (ad 3 r 0)), (1, .int z)]) X dX6_blockAt_8 (by decide) rfl ?_
    refine g_aload_n X dX6_blockAt_9 rfl ?_
    refine g_ifnonnull 23 X dX6_blockAt_10 (by decide) ?_
    refine g_aload_n X dX6_blockAt_23 rfl ?_
    refine g_areturn X E (Or.inr ⟨_, rfl⟩) dX6_blockAt_24 (by decide) (by decide) ?_
    exact ⟨_, rfl, rfl, rfl⟩
  · skip
    exact absurd hzb (f5 _ hb)
set_option maxHeartbeats 4000000 in
set_option maxRecDepth 100000 in
theorem c_X6_checkBlock {Z : gEnv} {ad : gAd} {P : gP} {h : gH} (G : gG Z) (hR : gRep Z ad P h) {r : Nat} (hl4 : gLive P 4 r 0) (hB : pnB P r ≤ 12) {z : Int32} : gMet Z yX6_checkBlock cX6_checkBlock 2 ((Option.none : Option FieldType)) 7 1 6 [.ref (ad 4 r 0), .int z] h (fun v h2 => v = none ∧ (∃ b, z = nI b ∧ b < pnB P r) ∧ h2 = h) (qT h (fun E => E = eIDX ∧ ∀ i, i < pnB P r → z ≠ nI i)) := by
  refine g_enter (lv := [(0, .ref (ad 4 r 0)), (1, .int z)]) G.2 (by decide +kernel) (Nat.le_of_ble_eq_true rfl) rfl (fun Γ X Nt E RM => ?_)
  refine g_aload_n X dX6_checkBlock_0 rfl ?_
  refine g_iload_n X dX6_checkBlock_1 rfl ?_
  refine gp_V X RM lm_X6_407 (c_X4_blockOrNull G hR hl4 hB) cl_X4 hR hl4 rfl rfl rfl (Nat.le_of_ble_eq_true rfl) (by decide) (by decide) dX6_checkBlock_2 (fun v hz q => ?_) (fun _ _ q => q.elim)
  obtain ⟨w2, rfl, e2, rfl⟩ := q
  rcases e2 with ⟨j2, f2, k2, rfl⟩ | ⟨rfl, f2⟩
  · skip
    have hl2 : gLive P 0 r j2 := ⟨(hl4).1, k2⟩
    refine GJ.seq (st' := [.ref (ad 0 r j2)]) rfl ?_
    refine g_ifnonnull 18 X dX6_checkBlock_5 (by decide) ?_
    refine g_return X E dX6_checkBlock_18 (by decide) (by decide) ?_
    exact ⟨rfl, ⟨_, f2, k2⟩, rfl⟩
  · skip
    refine GJ.seq (st' := [.null]) rfl ?_
    refine g_ifnonnullN X dX6_checkBlock_5 ?_
    refine gp_thr X RM Nt E th_IndexOutOfBoundsException ls_X6_60 dX6_checkBlock_8 dX6_checkBlock_11 dX6_checkBlock_12 dX6_checkBlock_14 dX6_checkBlock_17 ⟨Nat.le_of_ble_eq_true rfl, Nat.le_of_ble_eq_true rfl, Nat.le_of_ble_eq_true rfl, Nat.le_of_ble_eq_true rfl, Nat.le_of_ble_eq_true rfl, Nat.le_of_ble_eq_true rfl⟩ ?_
    exact ⟨⟨rfl, f2⟩, rfl⟩
set_option maxHeartbeats 4000000 in
set_option maxRecDepth 100000 in
theorem c_X6_checkProcessor {Z : gEnv} {ad : gAd} {P : gP} {h : gH} (G : gG Z) (hR : gRep Z ad P h) {p : Int32} (hp : p = 0 ∨ p = 1) : gMet Z yX6_checkProcessor cX6_checkProcessor 1 ((Option.none : Option FieldType)) 1 0 0 [.int p] h (fun v h2 => v = none ∧ True ∧ h2 = h) (qN) := by
  refine g_enter (lv := [(0, .int p)]) G.2 (by decide +kernel) (Nat.le_of_ble_eq_true rfl) rfl (fun Γ X Nt E RM => ?_)
  refine g_iload_n X dX6_checkProcessor_0 rfl ?_
  refine g_if_eq 20 X dX6_checkProcessor_1 (by decide) (fun c1 => ?_) (fun c1 => ?_)
  · skip
    refine g_return X E dX6_checkProcessor_20 (by decide) (by decide) ?_
    exact ⟨rfl, trivial, rfl⟩
  · skip
    refine g_iload_n X dX6_checkProcessor_4 rfl ?_
    refine g_iconst (v := 1) X dX6_checkProcessor_5 (by decide) ?_
    refine g_icmp_eq 20 X dX6_checkProcessor_6 (by decide) (fun c6 => ?_) (fun c6 => ?_)
    · skip
      refine g_return X E dX6_checkProcessor_20 (by decide) (by decide) ?_
      exact ⟨rfl, trivial, rfl⟩
    · skip
      exact absurd hp (by simp_all)
set_option maxHeartbeats 4000000 in
set_option maxRecDepth 100000 in
theorem c_X6_trainAt {Z : gEnv} {ad : gAd} {P : gP} {h : gH} (G : gG Z) (hR : gRep Z ad P h) {r : Nat} (hl3 : gLive P 3 r 0) (hT4 : pnT P r ≤ 4) {z : Int32} : gMet Z yX6_trainAt cX6_trainAt 3 ((Option.some (FieldType.object "Coasterland$Train"))) 7 1 6 [.ref (ad 3 r 0), .int z] h (qR h (fun w => ∃ j, z = nI j ∧ j < pnT P r ∧ w = .ref (ad 5 r j))) (qT h (fun E => E = eIDX ∧ ∀ i, i < pnT P r → z ≠ nI i)) := by
  refine g_enter (lv := [(0, .ref (ad 3 r 0)), (1, .int z)]) G.2 (by decide +kernel) (Nat.le_of_ble_eq_true rfl) rfl (fun Γ X Nt E RM => ?_)
  refine g_aload_n X dX6_trainAt_0 rfl ?_
  refine g_iload_n X dX6_trainAt_1 rfl ?_
  refine gp_V X RM lm_X6_413 (c_X3_trainOrNull G hR hl3 hT4) cl_X3 hR hl3 rfl rfl rfl (Nat.le_of_ble_eq_true rfl) (by decide) (by decide) dX6_trainAt_2 (fun v hz q => ?_) (fun _ _ q => q.elim)
  obtain ⟨w2, rfl, e2, rfl⟩ := q
  rcases e2 with ⟨j2, f2, k2, rfl⟩ | ⟨rfl, f2⟩
  · skip
    have hl2 : gLive P 5 r j2 := ⟨(hl3).1, k2⟩
    refine GJ.seq (st' := [.ref (ad 5 r j2)]) rfl ?_
    refine g_astore_n (lv' := [(2, .ref (ad 5 r j2)), (0, .ref (ad 3 r 0)), (1, .int z)]) X dX6_trainAt_5 (by decide) rfl ?_
    refine g_aload_n X dX6_trainAt_6 rfl ?_
    refine g_ifnonnull 21 X dX6_trainAt_7 (by decide) ?_
    refine g_aload_n X dX6_trainAt_21 rfl ?_
    refine g_areturn X E (Or.inr ⟨_, rfl⟩) dX6_trainAt_22 (by decide) (by decide) ?_
    exact ⟨_, rfl, ⟨_, f2, k2, rfl⟩, rfl⟩
  · skip
    refine GJ.seq (st' := [.null]) rfl ?_
    refine g_astore_nN (lv' := [(2, .null), (0, .ref (ad 3 r 0)), (1, .int z)]) X dX6_trainAt_5 (by decide) rfl ?_
    refine g_aload_nN X dX6_trainAt_6 rfl ?_
    refine g_ifnonnullN X dX6_trainAt_7 ?_
    refine gp_thrW X RM Nt E th_IndexOutOfBoundsException ls_X6_417 dX6_trainAt_10 dX6_trainAt_13 dX6_trainAt_14 dX6_trainAt_17 dX6_trainAt_20 ⟨Nat.le_of_ble_eq_true rfl, Nat.le_of_ble_eq_true rfl, Nat.le_of_ble_eq_true rfl, Nat.le_of_ble_eq_true rfl, Nat.le_of_ble_eq_true rfl, Nat.le_of_ble_eq_true rfl⟩ ?_
    exact ⟨⟨rfl, f2⟩, rfl⟩
set_option maxHeartbeats 4000000 in
set_option maxRecDepth 100000 in
theorem c_X6_lineAt {Z : gEnv} {ad : gAd} {P : gP} {h : gH} (G : gG Z) (hR : gRep Z ad P h) {r : Nat} (hl3 : gLive P 3 r 0) {c : Int32} {q : Nat} (hq : c = 108 ∧ q = 0 ∨ c = 115 ∧ q = 1 ∨ c = 114 ∧ q = 2) : gMet Z yX6_lineAt cX6_lineAt 3 ((Option.some (FieldType.object "Coasterland$Line"))) 2 0 0 [.ref (ad 3 r 0), .int c] h (qR h (fun w => w = .ref (ad 2 r q))) (qN) := by
  refine g_enter (lv := [(0, .ref (ad 3 r 0)), (1, .int c)]) G.2 (by decide +kernel) (Nat.le_of_ble_eq_true rfl) rfl (fun Γ X Nt E RM => ?_)
  refine g_aload_n X dX6_lineAt_0 rfl ?_
  refine g_iload_n X dX6_lineAt_1 rfl ?_
  refine gp_V X RM lm_X6_419 (c_X3_lineOrNull G hR hl3) cl_X3 hR hl3 rfl rfl rfl (Nat.le_of_ble_eq_true rfl) (by decide) (by decide) dX6_lineAt_2 (fun v hz q => ?_) (fun _ _ q => q.elim)
  obtain ⟨w2, rfl, e2, rfl⟩ := q
  rcases e2 with ⟨q2, k2, rfl, f2⟩ | ⟨rfl, n1, n2, n3⟩
  · skip
    have hl2 : gLive P 2 r q2 := ⟨hl3.1, k2⟩
    refine GJ.seq (st' := [.ref (ad 2 r q2)]) rfl ?_
    refine g_astore_n (lv' := [(2, .ref (ad 2 r q2)), (0, .ref (ad 3 r 0)), (1, .int c)]) X dX6_lineAt_5 (by decide) rfl ?_
    refine g_aload_n X dX6_lineAt_6 rfl ?_
    refine g_ifnonnull 21 X dX6_lineAt_7 (by decide) ?_
    refine g_aload_n X dX6_lineAt_21 rfl ?_
    refine g_areturn X E (Or.inr ⟨_, rfl⟩) dX6_lineAt_22 (by decide) (by decide) ?_
    refine ⟨_, rfl, ?_, rfl⟩
    have hqq : q2 = q := by rcases f2 with f | f | f <;> rcases hq with e | e | e <;> (obtain ⟨f1, rfl⟩ := f; obtain ⟨e1, rfl⟩ := e; first | rfl | (exact absurd (f1.symm.trans e1) (by decide)))
    rw [hqq]
  · skip
    exact absurd hq (by simp_all)
set_option maxHeartbeats 4000000 in
set_option maxRecDepth 100000 in
theorem c_X6_checkMember {Z : gEnv} {ad : gAd} {P : gP} {h : gH} (G : gG Z) (hR : gRep Z ad P h) {m : Int32} (hm : ¬ m < 0 ∧ m < pI P 6 0 0 3) : gMet Z yX6_checkMember cX6_checkMember 2 ((Option.none : Option FieldType)) 1 0 0 [.ref (ad 6 0 0), .int m] h (fun v h2 => v = none ∧ True ∧ h2 = h) (qN) := by
  refine g_enter (lv := [(0, .ref (ad 6 0 0)), (1, .int m)]) G.2 (by decide +kernel) (Nat.le_of_ble_eq_true rfl) rfl (fun Γ X Nt E RM => ?_)
  refine g_iload_n X dX6_checkMember_0 rfl ?_
  refine g_if_lt 12 X dX6_checkMember_1 (by decide) (fun c1 => ?_) (fun c1 => ?_)
  · skip
    exact (hm.1 c1).elim
  · skip
    refine g_iload_n X dX6_checkMember_4 rfl ?_
    refine g_aload_n X dX6_checkMember_5 rfl ?_
    refine gp_geti (j := 3) X hR (⟨rfl, rfl⟩) cl_X6 lk_X6_124 rfl (by decide) rfl rfl dX6_checkMember_6 (fun x6 e6 => ?_)
    refine g_icmp_lt 23 X dX6_checkMember_9 (by decide) (fun c9 => ?_) (fun c9 => ?_)
    · skip
      refine g_return X E dX6_checkMember_23 (by decide) (by decide) ?_
      exact ⟨rfl, trivial, rfl⟩
    · skip
      exact absurd (by rw [e6]; exact hm.2) c9
set_option maxHeartbeats 4000000 in
set_option maxRecDepth 100000 in
theorem c_X6_isCertified {Z : gEnv} {ad : gAd} {P : gP} {h : gH} (G : gG Z) (hR : gRep Z ad P h) {a b : Int32} : gMet Z yX6_isCertified cX6_isCertified 3 ((Option.some FieldType.boolean)) 1 0 0 [.ref (ad 6 0 0), .int a, .int b] h (qI h (fun _ => True)) (qN) := by
  refine g_enter (lv := [(0, .ref (ad 6 0 0)), (1, .int a), (2, .int b)]) G.2 (by decide +kernel) (Nat.le_of_ble_eq_true rfl) rfl (fun Γ X Nt E RM => ?_)
  refine g_iload_n X dX6_isCertified_0 rfl ?_
  refine g_if_lt 30 X dX6_isCertified_1 (by decide) (fun c1 => ?_) (fun c1 => ?_)
  · skip
    refine g_iconst (v := 0) X dX6_isCertified_30 (by decide) ?_
    refine g_ireturn X E (by decide) dX6_isCertified_31 (by decide) (by decide) ?_
    exact ⟨_, rfl, trivial, rfl⟩
  · skip
    refine g_iload_n X dX6_isCertified_4 rfl ?_
    refine g_aload_n X dX6_isCertified_5 rfl ?_
    refine gp_get (j := 2) (v := .ref (ad 8 0 0)) X hR (⟨rfl, rfl⟩) cl_X6 lk_X6_15 rfl (by decide) rfl rfl dX6_isCertified_6 ?_
    refine gp_alen (v := 8) X hR (⟨rfl, rfl⟩) G.t1 rfl rfl dX6_isCertified_9 ?_
    refine g_icmp_ge 30 X dX6_isCertified_10 (by decide) (fun c10 => ?_) (fun c10 => ?_)
    · skip
      refine g_iconst (v := 0) X dX6_isCertified_30 (by decide) ?_
      refine g_ireturn X E (by decide) dX6_isCertified_31 (by decide) (by decide) ?_
      exact ⟨_, rfl, trivial, rfl⟩
    · skip
      obtain ⟨j, hj, hxj⟩ := g_ix c1 c10 (N := 8) (by decide)
      refine g_aload_n X dX6_isCertified_13 rfl ?_
      refine gp_get (j := 2) (v := .ref (ad 8 0 0)) X hR (⟨rfl, rfl⟩) cl_X6 lk_X6_15 rfl (by decide) rfl rfl dX6_isCertified_14 ?_
      refine g_iload_n X dX6_isCertified_17 rfl ?_
      refine gp_iald (j := j) X hR (⟨rfl, rfl⟩) G.t1 rfl hxj hj (by decide) dX6_isCertified_18 (fun x18 e18 => ?_)
      refine g_iconst (v := 1) X dX6_isCertified_19 (by decide) ?_
      refine g_iload_n X dX6_isCertified_20 rfl ?_
      refine g_ishl X dX6_isCertified_21 (fun x21 e21 => ?_)
      refine g_iand X dX6_isCertified_22 (fun x22 e22 => ?_)
      refine g_if_eq 30 X dX6_isCertified_23 (by decide) (fun c23 => ?_) (fun c23 => ?_)
      · skip
        refine g_iconst (v := 0) X dX6_isCertified_30 (by decide) ?_
        refine g_ireturn X E (by decide) dX6_isCertified_31 (by decide) (by decide) ?_
        exact ⟨_, rfl, trivial, rfl⟩
      · skip
        refine g_iconst (v := 1) X dX6_isCertified_26 (by decide) ?_
        refine g_goto 31 X dX6_isCertified_27 (by decide) ?_
        refine g_ireturn X E (by decide) dX6_isCertified_31 (by decide) (by decide) ?_
        exact ⟨_, rfl, trivial, rfl⟩
set_option maxHeartbeats 4000000 in
set_option maxRecDepth 100000 in
theorem c_X6_operatesAnother {Z : gEnv} {ad : gAd} {P : gP} {h : gH} (G : gG Z) (hR : gRep Z ad P h) {y : Int32} {r : Nat} (hl3 : gLive P 3 r 0) : gMet Z yX6_operatesAnother cX6_operatesAnother 7 ((Option.some FieldType.boolean)) 1 0 0 [.ref (ad 6 0 0), .int y, .ref (ad 3 r 0)] h (qI h (fun _ => True)) (qN) := by
  refine g_enter (lv := [(0, .ref (ad 6 0 0)), (1, .int y), (2, .ref (ad 3 r 0))]) G.2 (by decide +kernel) (Nat.le_of_ble_eq_true rfl) rfl (fun Γ X Nt E RM => ?_)
  have L : ∀ (m : Nat) (k : Nat) (x5 : Int32) (hm : m + k = 4) (hi : x5 = nI k), GJ Z Γ h 0 0 12 [(5, .int x5), (4, .int 4), (3, .ref (ad 7 0 0)), (2, .ref (ad 3 r 0)), (1, .int y), (0, .ref (ad 6 0 0))] [] := by
    intro m
    induction m with
    | zero =>
      intro k x5 hm hi
      refine g_iload X dX6_operatesAnother_12 rfl ?_
      refine g_iload X dX6_operatesAnother_14 rfl ?_
      refine g_icmp_ge 53 X dX6_operatesAnother_16 (by decide) (fun c16 => ?_) (fun c16 => ?_)
      · skip
        refine g_iconst (v := 0) X dX6_operatesAnother_53 (by decide) ?_
        refine g_ireturn X E (by decide) dX6_operatesAnother_54 (by decide) (by decide) ?_
        exact ⟨_, rfl, trivial, rfl⟩
      · skip
        exact absurd c16 (by rw [hi]; exact nI_nlt (b := 4) (by omega) (by omega))
    | succ m ih =>
      intro k x5 hm hi
      refine g_iload X dX6_operatesAnother_12 rfl ?_
      refine g_iload X dX6_operatesAnother_14 rfl ?_
      refine g_icmp_ge 53 X dX6_operatesAnother_16 (by decide) (fun c16 => ?_) (fun c16 => ?_)
      · skip
        exact absurd (by rw [hi]; exact nI_lt (b := 4) (by omega) (by omega)) c16
      · skip
        refine g_aload_n X dX6_operatesAnother_19 rfl ?_
        refine g_iload X dX6_operatesAnother_20 rfl ?_
        refine gp_aald_if (j := k) X hR (⟨rfl, rfl⟩) G.t0 rfl hi (by omega) (by decide) dX6_operatesAnother_22 (fun h22 => ?_) (fun h22 => ?_)
        · skip
          have hl22 : gLive P 3 k 0 := ⟨h22, rfl⟩
          refine g_astore (lv' := [(6, .ref (ad 3 k 0)), (5, .int x5), (4, .int 4), (3, .ref (ad 7 0 0)), (2, .ref (ad 3 r 0)), (1, .int y), (0, .ref (ad 6 0 0))]) X dX6_operatesAnother_23 (by decide) rfl ?_
          refine g_aload X dX6_operatesAnother_25 rfl ?_
          refine g_ifnull X dX6_operatesAnother_27 ?_
          refine g_aload X dX6_operatesAnother_30 rfl ?_
          refine g_aload_n X dX6_operatesAnother_32 rfl ?_
          refine g_acmp_eq 47 X dX6_operatesAnother_33 (by decide) (fun c33 => ?_) (fun c33 => ?_)
          · skip
            refine gp_iinc 1 X dX6_operatesAnother_47 rfl (by decide) (fun x47 e47 => ?_)
            refine GJ.leq (lv' := [(5, .int x47), (6, .ref (ad 3 k 0)), (4, .int 4), (3, .ref (ad 7 0 0)), (2, .ref (ad 3 r 0)), (1, .int y), (0, .ref (ad 6 0 0))]) rfl ?_
            refine g_goto 12 X dX6_operatesAnother_50 (by decide) ?_
            refine GJ.pick [0, 2, 3, 4, 5, 6] rfl ?_
            exact ih (k + 1) x47 (by omega) (by rw [e47, hi]; exact nI_1 k)
          · skip
            refine g_aload X dX6_operatesAnother_36 rfl ?_
            refine gp_geti (j := 9) X hR hl22 cl_X3 lk_X6_142 rfl (by decide) rfl rfl dX6_operatesAnother_38 (fun x38 e38 => ?_)
            refine g_iload_n X dX6_operatesAnother_41 rfl ?_
            refine g_icmp_ne 47 X dX6_operatesAnother_42 (by decide) (fun c42 => ?_) (fun c42 => ?_)
            · skip
              refine gp_iinc 1 X dX6_operatesAnother_47 rfl (by decide) (fun x47 e47 => ?_)
              refine GJ.leq (lv' := [(5, .int x47), (6, .ref (ad 3 k 0)), (4, .int 4), (3, .ref (ad 7 0 0)), (2, .ref (ad 3 r 0)), (1, .int y), (0, .ref (ad 6 0 0))]) rfl ?_
              refine g_goto 12 X dX6_operatesAnother_50 (by decide) ?_
              refine GJ.pick [0, 2, 3, 4, 5, 6] rfl ?_
              exact ih (k + 1) x47 (by omega) (by rw [e47, hi]; exact nI_1 k)
            · skip
              refine g_iconst (v := 1) X dX6_operatesAnother_45 (by decide) ?_
              refine g_ireturn X E (by decide) dX6_operatesAnother_46 (by decide) (by decide) ?_
              exact ⟨_, rfl, trivial, rfl⟩
        · skip
          refine g_astoreN (lv' := [(6, .null), (5, .int x5), (4, .int 4), (3, .ref (ad 7 0 0)), (2, .ref (ad 3 r 0)), (1, .int y), (0, .ref (ad 6 0 0))]) X dX6_operatesAnother_23 (by decide) rfl ?_
          refine g_aloadN X dX6_operatesAnother_25 rfl ?_
          refine g_ifnullN 47 X dX6_operatesAnother_27 (by decide) ?_
          refine gp_iinc 1 X dX6_operatesAnother_47 rfl (by decide) (fun x47 e47 => ?_)
          refine GJ.leq (lv' := [(5, .int x47), (6, .null), (4, .int 4), (3, .ref (ad 7 0 0)), (2, .ref (ad 3 r 0)), (1, .int y), (0, .ref (ad 6 0 0))]) rfl ?_
          refine g_goto 12 X dX6_operatesAnother_50 (by decide) ?_
          refine GJ.pick [0, 2, 3, 4, 5, 6] rfl ?_
          exact ih (k + 1) x47 (by omega) (by rw [e47, hi]; exact nI_1 k)
  refine g_aload_n X dX6_operatesAnother_0 rfl ?_
  refine gp_get (j := 0) (v := .ref (ad 7 0 0)) X hR (⟨rfl, rfl⟩) cl_X6 lk_X6_11 rfl (by decide) rfl rfl dX6_operatesAnother_1 ?_
  refine g_astore_n (lv' := [(3, .ref (ad 7 0 0)), (0, .ref (ad 6 0 0)), (1, .int y), (2, .ref (ad 3 r 0))]) X dX6_operatesAnother_4 (by decide) rfl ?_
  refine g_aload_n X dX6_operatesAnother_5 rfl ?_
  refine gp_alen (v := 4) X hR (⟨rfl, rfl⟩) G.t0 rfl rfl dX6_operatesAnother_6 ?_
  refine g_istore (lv' := [(4, .int 4), (3, .ref (ad 7 0 0)), (0, .ref (ad 6 0 0)), (1, .int y), (2, .ref (ad 3 r 0))]) X dX6_operatesAnother_7 (by decide) rfl ?_
  refine g_iconst (v := 0) X dX6_operatesAnother_9 (by decide) ?_
  refine g_istore (lv' := [(5, .int 0), (4, .int 4), (3, .ref (ad 7 0 0)), (0, .ref (ad 6 0 0)), (1, .int y), (2, .ref (ad 3 r 0))]) X dX6_operatesAnother_10 (by decide) rfl ?_
  refine GJ.pick [0, 1, 2, 5, 4, 3] rfl ?_
  exact L 4 0 0 rfl rfl
set_option maxHeartbeats 4000000 in
set_option maxRecDepth 100000 in
theorem c_X6_isLightningNear {Z : gEnv} {ad : gAd} {P : gP} {h : gH} (G : gG Z) (hR : gRep Z ad P h) : gMet Z yX6_isLightningNear cX6_isLightningNear 1 ((Option.some FieldType.boolean)) 1 0 0 [.ref (ad 6 0 0)] h (qI h (fun x => x = fLt P)) (qN) := by
  refine g_enter (lv := [(0, .ref (ad 6 0 0))]) G.2 (by decide +kernel) (Nat.le_of_ble_eq_true rfl) rfl (fun Γ X Nt E RM => ?_)
  refine g_aload_n X dX6_isLightningNear_0 rfl ?_
  refine gp_geti (j := 8) X hR (⟨rfl, rfl⟩) cl_X6 lk_X6_204 rfl (by decide) rfl rfl dX6_isLightningNear_1 (fun x1 e1 => ?_)
  refine g_if_eq 25 X dX6_isLightningNear_4 (by decide) (fun c4 => ?_) (fun c4 => ?_)
  · skip
    refine g_iconst (v := 0) X dX6_isLightningNear_25 (by decide) ?_
    refine g_ireturn X E (by decide) dX6_isLightningNear_26 (by decide) (by decide) ?_
    refine ⟨_, rfl, ?_, rfl⟩
    subst_vars
    simp_all [fLt, -Int32.not_lt]
  · skip
    refine g_aload_n X dX6_isLightningNear_7 rfl ?_
    refine gp_geti (j := 7) X hR (⟨rfl, rfl⟩) cl_X6 lk_X6_207 rfl (by decide) rfl rfl dX6_isLightningNear_8 (fun x8 e8 => ?_)
    refine g_aload_n X dX6_isLightningNear_11 rfl ?_
    refine gp_geti (j := 9) X hR (⟨rfl, rfl⟩) cl_X6 lk_X6_210 rfl (by decide) rfl rfl dX6_isLightningNear_12 (fun x12 e12 => ?_)
    refine g_isub X dX6_isLightningNear_15 (fun x15 e15 => ?_)
    refine g_bipush (v := 15) X dX6_isLightningNear_16 (by decide) ?_
    refine g_icmp_gt 25 X dX6_isLightningNear_18 (by decide) (fun c18 => ?_) (fun c18 => ?_)
    · skip
      refine g_iconst (v := 0) X dX6_isLightningNear_25 (by decide) ?_
      refine g_ireturn X E (by decide) dX6_isLightningNear_26 (by decide) (by decide) ?_
      refine ⟨_, rfl, ?_, rfl⟩
      subst_vars
      simp_all [fLt, -Int32.not_lt]
    · skip
      refine g_iconst (v := 1) X dX6_isLightningNear_21 (by decide) ?_
      refine g_goto 26 X dX6_isLightningNear_22 (by decide) ?_
      refine g_ireturn X E (by decide) dX6_isLightningNear_26 (by decide) (by decide) ?_
      refine ⟨_, rfl, ?_, rfl⟩
      subst_vars
      simp_all [fLt, -Int32.not_lt]
set_option maxHeartbeats 4000000 in
set_option maxRecDepth 100000 in
theorem c_X6_moneyOfGuestsInside {Z : gEnv} {ad : gAd} {P : gP} {h : gH} (G : gG Z) (hR : gRep Z ad P h) : gMet Z yX6_moneyOfGuestsInside cX6_moneyOfGuestsInside 7 ((Option.some FieldType.long)) 1 0 0 [.ref (ad 6 0 0)] h (qL h (fun x => x = fMI P 60 0 0)) (qN) := by
  refine g_enter (lv := [(0, .ref (ad 6 0 0))]) G.2 (by decide +kernel) (Nat.le_of_ble_eq_true rfl) rfl (fun Γ X Nt E RM => ?_)
  have L : ∀ (m : Nat) (k : Nat) (x5 : Int32) (x1 : Int64) (hm : m + k = 60) (hi : x5 = nI k) (hf : fMI P m k x1 = fMI P 60 0 0), GJ Z Γ h 0 0 14 [(5, .int x5), (4, .int 60), (3, .ref (ad 9 0 0)), (1, .long x1), (0, .ref (ad 6 0 0))] [] := by
    intro m
    induction m with
    | zero =>
      intro k x5 x1 hm hi hf
      refine g_iload X dX6_moneyOfGuestsInside_14 rfl ?_
      refine g_iload X dX6_moneyOfGuestsInside_16 rfl ?_
      refine g_icmp_ge 57 X dX6_moneyOfGuestsInside_18 (by decide) (fun c18 => ?_) (fun c18 => ?_)
      · skip
        refine g_lload_n X dX6_moneyOfGuestsInside_57 rfl ?_
        refine g_lreturn X E dX6_moneyOfGuestsInside_58 (by decide) (by decide) ?_
        exact ⟨_, rfl, hf, rfl⟩
      · skip
        exact absurd c18 (by rw [hi]; exact nI_nlt (b := 60) (by omega) (by omega))
    | succ m ih =>
      intro k x5 x1 hm hi hf
      refine g_iload X dX6_moneyOfGuestsInside_14 rfl ?_
      refine g_iload X dX6_moneyOfGuestsInside_16 rfl ?_
      refine g_icmp_ge 57 X dX6_moneyOfGuestsInside_18 (by decide) (fun c18 => ?_) (fun c18 => ?_)
      · skip
        exact absurd (by rw [hi]; exact nI_lt (b := 60) (by omega) (by omega)) c18
      · skip
        refine g_aload_n X dX6_moneyOfGuestsInside_21 rfl ?_
        refine g_iload X dX6_moneyOfGuestsInside_22 rfl ?_
        refine gp_aald_if (j := k) X hR (⟨rfl, rfl⟩) G.t2 rfl hi (by omega) (by decide) dX6_moneyOfGuestsInside_24 (fun h24 => ?_) (fun h24 => ?_)
        · skip
          have hl24 : gLive P 1 k 0 := ⟨h24, rfl⟩
          refine g_astore (lv' := [(6, .ref (ad 1 k 0)), (5, .int x5), (4, .int 60), (3, .ref (ad 9 0 0)), (1, .long x1), (0, .ref (ad 6 0 0))]) X dX6_moneyOfGuestsInside_25 (by decide) rfl ?_
          refine g_aload X dX6_moneyOfGuestsInside_27 rfl ?_
          refine g_ifnull X dX6_moneyOfGuestsInside_29 ?_
          refine g_aload X dX6_moneyOfGuestsInside_32 rfl ?_
          refine gp_geti (j := 6) X hR hl24 cl_X1 lk_X6_276 rfl (by decide) rfl rfl dX6_moneyOfGuestsInside_34 (fun x34 e34 => ?_)
          refine g_bipush (v := 111) X dX6_moneyOfGuestsInside_37 (by decide) ?_
          refine g_icmp_eq 51 X dX6_moneyOfGuestsInside_39 (by decide) (fun c39 => ?_) (fun c39 => ?_)
          · skip
            refine gp_iinc 1 X dX6_moneyOfGuestsInside_51 rfl (by decide) (fun x51 e51 => ?_)
            refine GJ.leq (lv' := [(5, .int x51), (6, .ref (ad 1 k 0)), (4, .int 60), (3, .ref (ad 9 0 0)), (1, .long x1), (0, .ref (ad 6 0 0))]) rfl ?_
            refine g_goto 14 X dX6_moneyOfGuestsInside_54 (by decide) ?_
            refine GJ.pick [0, 2, 3, 4, 5] rfl ?_
            exact ih (k + 1) x51 x1 (by omega) (by rw [e51, hi]; exact nI_1 k) (by rw [← hf, fMI, if_neg (fun hh => hh.2 (by rw [← e34]; exact c39))])
          · skip
            refine g_lload_n X dX6_moneyOfGuestsInside_42 rfl ?_
            refine g_aload X dX6_moneyOfGuestsInside_43 rfl ?_
            refine gp_geti (j := 0) X hR hl24 cl_X1 lk_X6_284 rfl (by decide) rfl rfl dX6_moneyOfGuestsInside_45 (fun x45 e45 => ?_)
            refine g_i2l X dX6_moneyOfGuestsInside_48 (fun x48 e48 => ?_)
            refine g_ladd X dX6_moneyOfGuestsInside_49 (fun x49 e49 => ?_)
            refine g_lstore_n (lv' := [(1, .long x49), (6, .ref (ad 1 k 0)), (5, .int x5), (4, .int 60), (3, .ref (ad 9 0 0)), (0, .ref (ad 6 0 0))]) X dX6_moneyOfGuestsInside_50 (by decide) rfl ?_
            refine gp_iinc 2 X dX6_moneyOfGuestsInside_51 rfl (by decide) (fun x51 e51 => ?_)
            refine GJ.leq (lv' := [(5, .int x51), (1, .long x49), (6, .ref (ad 1 k 0)), (4, .int 60), (3, .ref (ad 9 0 0)), (0, .ref (ad 6 0 0))]) rfl ?_
            refine g_goto 14 X dX6_moneyOfGuestsInside_54 (by decide) ?_
            refine GJ.pick [0, 3, 4, 1, 5] rfl ?_
            exact ih (k + 1) x51 x49 (by omega) (by rw [e51, hi]; exact nI_1 k) (by rw [← hf, fMI, if_pos ⟨h24, by rw [← e34]; exact c39⟩, e49, e48, e45])
        · skip
          refine g_astoreN (lv' := [(6, .null), (5, .int x5), (4, .int 60), (3, .ref (ad 9 0 0)), (1, .long x1), (0, .ref (ad 6 0 0))]) X dX6_moneyOfGuestsInside_25 (by decide) rfl ?_
          refine g_aloadN X dX6_moneyOfGuestsInside_27 rfl ?_
          refine g_ifnullN 51 X dX6_moneyOfGuestsInside_29 (by decide) ?_
          refine gp_iinc 1 X dX6_moneyOfGuestsInside_51 rfl (by decide) (fun x51 e51 => ?_)
          refine GJ.leq (lv' := [(5, .int x51), (6, .null), (4, .int 60), (3, .ref (ad 9 0 0)), (1, .long x1), (0, .ref (ad 6 0 0))]) rfl ?_
          refine g_goto 14 X dX6_moneyOfGuestsInside_54 (by decide) ?_
          refine GJ.pick [0, 2, 3, 4, 5] rfl ?_
          exact ih (k + 1) x51 x1 (by omega) (by rw [e51, hi]; exact nI_1 k) (by rw [← hf, fMI, if_neg (fun hh => h24 hh.1)])
  refine g_lconst (v := 0) X dX6_moneyOfGuestsInside_0 (by decide) ?_
  refine g_lstore_n (lv' := [(1, .long 0), (0, .ref (ad 6 0 0))]) X dX6_moneyOfGuestsInside_1 (by decide) rfl ?_
  refine g_aload_n X dX6_moneyOfGuestsInside_2 rfl ?_
  refine gp_get (j := 4) (v := .ref (ad 9 0 0)) X hR (⟨rfl, rfl⟩) cl_X6 lk_X6_21 rfl (by decide) rfl rfl dX6_moneyOfGuestsInside_3 ?_
  refine g_astore_n (lv' := [(3, .ref (ad 9 0 0)), (1, .long 0), (0, .ref (ad 6 0 0))]) X dX6_moneyOfGuestsInside_6 (by decide) rfl ?_
  refine g_aload_n X dX6_moneyOfGuestsInside_7 rfl ?_
  refine gp_alen (v := 60) X hR (⟨rfl, rfl⟩) G.t2 rfl rfl dX6_moneyOfGuestsInside_8 ?_
  refine g_istore (lv' := [(4, .int 60), (3, .ref (ad 9 0 0)), (1, .long 0), (0, .ref (ad 6 0 0))]) X dX6_moneyOfGuestsInside_9 (by decide) rfl ?_
  refine g_iconst (v := 0) X dX6_moneyOfGuestsInside_11 (by decide) ?_
  refine g_istore (lv' := [(5, .int 0), (4, .int 60), (3, .ref (ad 9 0 0)), (1, .long 0), (0, .ref (ad 6 0 0))]) X dX6_moneyOfGuestsInside_12 (by decide) rfl ?_
  exact L 60 0 0 0 rfl rfl rfl
set_option maxHeartbeats 4000000 in
set_option maxRecDepth 100000 in
theorem c_X6_isInOnePlace {Z : gEnv} {ad : gAd} {P : gP} {h : gH} (G : gG Z) (hR : gRep Z ad P h) {LL RR : Nat → Nat → List Nat} (hWt : Wit P LL RR) {g : Nat} (hlg : gLive P 1 g 0) (hq : nI (ctL LL g 4) = if pI P 1 g 0 6 = 113 then 1 else 0) (ht : nI (ctR RR g 4) = if pI P 1 g 0 6 = 116 then 1 else 0) : gMet Z yX6_isInOnePlace cX6_isInOnePlace 8 ((Option.some FieldType.boolean)) 4 0 0 [.ref (ad 6 0 0), .ref (ad 1 g 0)] h (qI h (fun x => x = 1)) (qN) := by
  refine g_enter (lv := [(0, .ref (ad 6 0 0)), (1, .ref (ad 1 g 0))]) G.2 (by decide +kernel) (Nat.le_of_ble_eq_true rfl) rfl (fun Γ X Nt E RM => ?_)
  have L : ∀ (m : Nat) (k : Nat) (x6 x3 x2 : Int32) (hm : m + k = 4) (hi : x6 = nI k) (h2 : x2 = nI (ctL LL g k)) (h3 : x3 = nI (ctR RR g k)), GJ Z Γ h 0 0 18 [(6, .int x6), (5, .int 4), (4, .ref (ad 7 0 0)), (3, .int x3), (2, .int x2), (1, .ref (ad 1 g 0)), (0, .ref (ad 6 0 0))] [] := by
    intro m
    induction m with
    | zero =>
      intro k x6 x3 x2 hm hi h2 h3
      have hk4 : k = 4 := by omega
      subst hk4
      refine g_iload X dX6_isInOnePlace_18 rfl ?_
      refine g_iload X dX6_isInOnePlace_20 rfl ?_
      refine g_icmp_ge 61 X dX6_isInOnePlace_22 (by decide) (fun c22 => ?_) (fun c22 => ?_)
      · skip
        refine g_iload_n X dX6_isInOnePlace_61 rfl ?_
        refine g_aload_n X dX6_isInOnePlace_62 rfl ?_
        refine gp_geti (j := 6) X hR hlg cl_X1 lk_X6_276 rfl (by decide) rfl rfl dX6_isInOnePlace_63 (fun x63 e63 => ?_)
        refine g_bipush (v := 113) X dX6_isInOnePlace_66 (by decide) ?_
        refine g_icmp_ne 75 X dX6_isInOnePlace_68 (by decide) (fun c68 => ?_) (fun c68 => ?_)
        · skip
          refine g_iconst (v := 0) X dX6_isInOnePlace_75 (by decide) ?_
          refine g_icmp_ne 101 X dX6_isInOnePlace_76 (by decide) (fun c76 => ?_) (fun c76 => ?_)
          · skip
            refine g_iconst (v := 0) X dX6_isInOnePlace_101 (by decide) ?_
            refine g_ireturn X E (by decide) dX6_isInOnePlace_102 (by decide) (by decide) ?_
            refine ⟨_, rfl, ?_, rfl⟩
            first
            | rfl
            | (exfalso; rw [h2] at *; rw [h3] at *; simp_all)
          · skip
            refine g_iload_n X dX6_isInOnePlace_79 rfl ?_
            refine g_aload_n X dX6_isInOnePlace_80 rfl ?_
            refine gp_geti (j := 6) X hR hlg cl_X1 lk_X6_276 rfl (by decide) rfl rfl dX6_isInOnePlace_81 (fun x81 e81 => ?_)
            refine g_bipush (v := 116) X dX6_isInOnePlace_84 (by decide) ?_
            refine g_icmp_ne 93 X dX6_isInOnePlace_86 (by decide) (fun c86 => ?_) (fun c86 => ?_)
            · skip
              refine g_iconst (v := 0) X dX6_isInOnePlace_93 (by decide) ?_
              refine g_icmp_ne 101 X dX6_isInOnePlace_94 (by decide) (fun c94 => ?_) (fun c94 => ?_)
              · skip
                refine g_iconst (v := 0) X dX6_isInOnePlace_101 (by decide) ?_
                refine g_ireturn X E (by decide) dX6_isInOnePlace_102 (by decide) (by decide) ?_
                refine ⟨_, rfl, ?_, rfl⟩
                first
                | rfl
                | (exfalso; rw [h2] at *; rw [h3] at *; simp_all)
              · skip
                refine g_iconst (v := 1) X dX6_isInOnePlace_97 (by decide) ?_
                refine g_goto 102 X dX6_isInOnePlace_98 (by decide) ?_
                refine g_ireturn X E (by decide) dX6_isInOnePlace_102 (by decide) (by decide) ?_
                refine ⟨_, rfl, ?_, rfl⟩
                first
                | rfl
                | (exfalso; rw [h2] at *; rw [h3] at *; simp_all)
            · skip
              refine g_iconst (v := 1) X dX6_isInOnePlace_89 (by decide) ?_
              refine g_goto 94 X dX6_isInOnePlace_90 (by decide) ?_
              refine g_icmp_ne 101 X dX6_isInOnePlace_94 (by decide) (fun c94 => ?_) (fun c94 => ?_)
              · skip
                refine g_iconst (v := 0) X dX6_isInOnePlace_101 (by decide) ?_
                refine g_ireturn X E (by decide) dX6_isInOnePlace_102 (by decide) (by decide) ?_
                refine ⟨_, rfl, ?_, rfl⟩
                first
                | rfl
                | (exfalso; rw [h2] at *; rw [h3] at *; simp_all)
              · skip
                refine g_iconst (v := 1) X dX6_isInOnePlace_97 (by decide) ?_
                refine g_goto 102 X dX6_isInOnePlace_98 (by decide) ?_
                refine g_ireturn X E (by decide) dX6_isInOnePlace_102 (by decide) (by decide) ?_
                refine ⟨_, rfl, ?_, rfl⟩
                first
                | rfl
                | (exfalso; rw [h2] at *; rw [h3] at *; simp_all)
        · skip
          refine g_iconst (v := 1) X dX6_isInOnePlace_71 (by decide) ?_
          refine g_goto 76 X dX6_isInOnePlace_72 (by decide) ?_
          refine g_icmp_ne 101 X dX6_isInOnePlace_76 (by decide) (fun c76 => ?_) (fun c76 => ?_)
          · skip
            refine g_iconst (v := 0) X dX6_isInOnePlace_101 (by decide) ?_
            refine g_ireturn X E (by decide) dX6_isInOnePlace_102 (by decide) (by decide) ?_
            refine ⟨_, rfl, ?_, rfl⟩
            first
            | rfl
            | (exfalso; rw [h2] at *; rw [h3] at *; simp_all)
          · skip
            refine g_iload_n X dX6_isInOnePlace_79 rfl ?_
            refine g_aload_n X dX6_isInOnePlace_80 rfl ?_
            refine gp_geti (j := 6) X hR hlg cl_X1 lk_X6_276 rfl (by decide) rfl rfl dX6_isInOnePlace_81 (fun x81 e81 => ?_)
            refine g_bipush (v := 116) X dX6_isInOnePlace_84 (by decide) ?_
            refine g_icmp_ne 93 X dX6_isInOnePlace_86 (by decide) (fun c86 => ?_) (fun c86 => ?_)
            · skip
              refine g_iconst (v := 0) X dX6_isInOnePlace_93 (by decide) ?_
              refine g_icmp_ne 101 X dX6_isInOnePlace_94 (by decide) (fun c94 => ?_) (fun c94 => ?_)
              · skip
                refine g_iconst (v := 0) X dX6_isInOnePlace_101 (by decide) ?_
                refine g_ireturn X E (by decide) dX6_isInOnePlace_102 (by decide) (by decide) ?_
                refine ⟨_, rfl, ?_, rfl⟩
                first
                | rfl
                | (exfalso; rw [h2] at *; rw [h3] at *; simp_all)
              · skip
                refine g_iconst (v := 1) X dX6_isInOnePlace_97 (by decide) ?_
                refine g_goto 102 X dX6_isInOnePlace_98 (by decide) ?_
                refine g_ireturn X E (by decide) dX6_isInOnePlace_102 (by decide) (by decide) ?_
                refine ⟨_, rfl, ?_, rfl⟩
                first
                | rfl
                | (exfalso; rw [h2] at *; rw [h3] at *; simp_all)
            · skip
              refine g_iconst (v := 1) X dX6_isInOnePlace_89 (by decide) ?_
              refine g_goto 94 X dX6_isInOnePlace_90 (by decide) ?_
              refine g_icmp_ne 101 X dX6_isInOnePlace_94 (by decide) (fun c94 => ?_) (fun c94 => ?_)
              · skip
                refine g_iconst (v := 0) X dX6_isInOnePlace_101 (by decide) ?_
                refine g_ireturn X E (by decide) dX6_isInOnePlace_102 (by decide) (by decide) ?_
                refine ⟨_, rfl, ?_, rfl⟩
                first
                | rfl
                | (exfalso; rw [h2] at *; rw [h3] at *; simp_all)
              · skip
                refine g_iconst (v := 1) X dX6_isInOnePlace_97 (by decide) ?_
                refine g_goto 102 X dX6_isInOnePlace_98 (by decide) ?_
                refine g_ireturn X E (by decide) dX6_isInOnePlace_102 (by decide) (by decide) ?_
                refine ⟨_, rfl, ?_, rfl⟩
                first
                | rfl
                | (exfalso; rw [h2] at *; rw [h3] at *; simp_all)
      · skip
        exact absurd c22 (by rw [hi]; exact nI_nlt (b := 4) (by omega) (by omega))
    | succ m ih =>
      intro k x6 x3 x2 hm hi h2 h3
      refine g_iload X dX6_isInOnePlace_18 rfl ?_
      refine g_iload X dX6_isInOnePlace_20 rfl ?_
      refine g_icmp_ge 61 X dX6_isInOnePlace_22 (by decide) (fun c22 => ?_) (fun c22 => ?_)
      · skip
        exact absurd (by rw [hi]; exact nI_lt (b := 4) (by omega) (by omega)) c22
      · skip
        refine g_aload X dX6_isInOnePlace_25 rfl ?_
        refine g_iload X dX6_isInOnePlace_27 rfl ?_
        refine gp_aald_if (j := k) X hR (⟨rfl, rfl⟩) G.t0 rfl hi (by omega) (by decide) dX6_isInOnePlace_29 (fun h29 => ?_) (fun h29 => ?_)
        · skip
          have hl29 : gLive P 3 k 0 := ⟨h29, rfl⟩
          refine g_astore (lv' := [(7, .ref (ad 3 k 0)), (6, .int x6), (5, .int 4), (4, .ref (ad 7 0 0)), (3, .int x3), (2, .int x2), (1, .ref (ad 1 g 0)), (0, .ref (ad 6 0 0))]) X dX6_isInOnePlace_30 (by decide) rfl ?_
          refine g_aload X dX6_isInOnePlace_32 rfl ?_
          refine g_ifnull X dX6_isInOnePlace_34 ?_
          refine g_iload_n X dX6_isInOnePlace_37 rfl ?_
          refine g_aload X dX6_isInOnePlace_38 rfl ?_
          refine g_aload_n X dX6_isInOnePlace_40 rfl ?_
          refine gp_V X RM lm_X6_429 (c_X3_countInLines G hR hl29 (hWt.1 k 0 h29 (by decide)) (hWt.1 k 1 h29 (by decide)) (hWt.1 k 2 h29 (by decide)) hlg) cl_X3 hR hl29 rfl rfl rfl (Nat.le_of_ble_eq_true rfl) (by decide) (by decide) dX6_isInOnePlace_41 (fun v hz q => ?_) (fun _ _ q => q.elim)
          obtain ⟨x41, rfl, e41, rfl⟩ := q
          refine GJ.seq (st' := [.int x41, .int x2]) rfl ?_
          refine g_iadd X dX6_isInOnePlace_44 (fun x44 e44 => ?_)
          refine g_istore_n (lv' := [(2, .int x44), (7, .ref (ad 3 k 0)), (6, .int x6), (5, .int 4), (4, .ref (ad 7 0 0)), (3, .int x3), (1, .ref (ad 1 g 0)), (0, .ref (ad 6 0 0))]) X dX6_isInOnePlace_45 (by decide) rfl ?_
          refine g_iload_n X dX6_isInOnePlace_46 rfl ?_
          refine g_aload X dX6_isInOnePlace_47 rfl ?_
          refine g_aload_n X dX6_isInOnePlace_49 rfl ?_
          refine gp_V X RM lm_X6_433 (c_X3_countInTrains G hR hl29 (RR := RR k) (fun i hi9 => hWt.2.2.1 k i h29 hi9) (fun i hi9 => hWt.2.2.2 k i (fun hh => hi9 hh.2)) hlg) cl_X3 hR hl29 rfl rfl rfl (Nat.le_of_ble_eq_true rfl) (by decide) (by decide) dX6_isInOnePlace_50 (fun v hz q => ?_) (fun _ _ q => q.elim)
          obtain ⟨x50, rfl, e50, rfl⟩ := q
          refine GJ.seq (st' := [.int x50, .int x3]) rfl ?_
          refine g_iadd X dX6_isInOnePlace_53 (fun x53 e53 => ?_)
          refine g_istore_n (lv' := [(3, .int x53), (2, .int x44), (7, .ref (ad 3 k 0)), (6, .int x6), (5, .int 4), (4, .ref (ad 7 0 0)), (1, .ref (ad 1 g 0)), (0, .ref (ad 6 0 0))]) X dX6_isInOnePlace_54 (by decide) rfl ?_
          refine gp_iinc 3 X dX6_isInOnePlace_55 rfl (by decide) (fun x55 e55 => ?_)
          refine GJ.leq (lv' := [(6, .int x55), (3, .int x53), (2, .int x44), (7, .ref (ad 3 k 0)), (5, .int 4), (4, .ref (ad 7 0 0)), (1, .ref (ad 1 g 0)), (0, .ref (ad 6 0 0))]) rfl ?_
          refine g_goto 18 X dX6_isInOnePlace_58 (by decide) ?_
          refine GJ.pick [0, 4, 5, 1, 2, 6, 7] rfl ?_
          exact ih (k + 1) x55 x53 x44 (by omega) (by rw [e55, hi]; exact nI_1 k) (by rw [ctL, e44, h2, e41, nI_add]) (by rw [ctR, e53, h3, e50, nI_add])
        · skip
          refine g_astoreN (lv' := [(7, .null), (6, .int x6), (5, .int 4), (4, .ref (ad 7 0 0)), (3, .int x3), (2, .int x2), (1, .ref (ad 1 g 0)), (0, .ref (ad 6 0 0))]) X dX6_isInOnePlace_30 (by decide) rfl ?_
          refine g_aloadN X dX6_isInOnePlace_32 rfl ?_
          refine g_ifnullN 55 X dX6_isInOnePlace_34 (by decide) ?_
          refine gp_iinc 1 X dX6_isInOnePlace_55 rfl (by decide) (fun x55 e55 => ?_)
          refine GJ.leq (lv' := [(6, .int x55), (7, .null), (5, .int 4), (4, .ref (ad 7 0 0)), (3, .int x3), (2, .int x2), (1, .ref (ad 1 g 0)), (0, .ref (ad 6 0 0))]) rfl ?_
          refine g_goto 18 X dX6_isInOnePlace_58 (by decide) ?_
          refine GJ.pick [0, 2, 3, 4, 5, 6, 7] rfl ?_
          exact ih (k + 1) x55 x3 x2 (by omega) (by rw [e55, hi]; exact nI_1 k) (by rw [ctL, hWt.2.1 k 0 h29, hWt.2.1 k 1 h29, hWt.2.1 k 2 h29]; exact h2) (by rw [ctR, show ctT (RR k) g 4 = 0 by simp [ctT, hWt.2.2.2 k _ (fun hh => h29 hh.1)]]; exact h3)
  refine g_iconst (v := 0) X dX6_isInOnePlace_0 (by decide) ?_
  refine g_istore_n (lv' := [(2, .int 0), (0, .ref (ad 6 0 0)), (1, .ref (ad 1 g 0))]) X dX6_isInOnePlace_1 (by decide) rfl ?_
  refine g_iconst (v := 0) X dX6_isInOnePlace_2 (by decide) ?_
  refine g_istore_n (lv' := [(3, .int 0), (2, .int 0), (0, .ref (ad 6 0 0)), (1, .ref (ad 1 g 0))]) X dX6_isInOnePlace_3 (by decide) rfl ?_
  refine g_aload_n X dX6_isInOnePlace_4 rfl ?_
  refine gp_get (j := 0) (v := .ref (ad 7 0 0)) X hR (⟨rfl, rfl⟩) cl_X6 lk_X6_11 rfl (by decide) rfl rfl dX6_isInOnePlace_5 ?_
  refine g_astore (lv' := [(4, .ref (ad 7 0 0)), (3, .int 0), (2, .int 0), (0, .ref (ad 6 0 0)), (1, .ref (ad 1 g 0))]) X dX6_isInOnePlace_8 (by decide) rfl ?_
  refine g_aload X dX6_isInOnePlace_10 rfl ?_
  refine gp_alen (v := 4) X hR (⟨rfl, rfl⟩) G.t0 rfl rfl dX6_isInOnePlace_12 ?_
  refine g_istore (lv' := [(5, .int 4), (4, .ref (ad 7 0 0)), (3, .int 0), (2, .int 0), (0, .ref (ad 6 0 0)), (1, .ref (ad 1 g 0))]) X dX6_isInOnePlace_13 (by decide) rfl ?_
  refine g_iconst (v := 0) X dX6_isInOnePlace_15 (by decide) ?_
  refine g_istore (lv' := [(6, .int 0), (5, .int 4), (4, .ref (ad 7 0 0)), (3, .int 0), (2, .int 0), (0, .ref (ad 6 0 0)), (1, .ref (ad 1 g 0))]) X dX6_isInOnePlace_16 (by decide) rfl ?_
  refine GJ.pick [0, 1, 2, 3, 4, 6, 5] rfl ?_
  exact L 4 0 0 0 0 rfl rfl rfl rfl
theorem lg_cmp_self (x : Int64) : lg_cmp x x = 0 := by unfold lg_cmp; simp
set_option maxHeartbeats 4000000 in
set_option maxRecDepth 100000 in
theorem c_X6_isSound {Z : gEnv} {ad : gAd} {P : gP} {h : gH} (G : gG Z) (hR : gRep Z ad P h) {LL RR : Nat → Nat → List Nat} (hWt : Wit P LL RR) (hs : (∀ r, r < pnR P → ∀ i, i < pnT P r → ¬ pI P 5 r i 6 &&& (1 <<< (pI P 5 r i 3 &&& 31)) = 0 ∧ ∀ j, j < pnT P r → j ≠ i → pI P 5 r i 6 &&& pI P 5 r j 6 = 0)) (hp : (∀ g, g < pnG P → nI (ctL LL g 4) = (if pI P 1 g 0 6 = 113 then 1 else 0) ∧ nI (ctR RR g 4) = if pI P 1 g 0 6 = 116 then 1 else 0)) (hmon : pJ P 10 = fMI P 60 0 0 + pJ P 12 + pJ P 11) : gMet Z yX6_isSound cX6_isSound 5 ((Option.some FieldType.boolean)) 5 0 0 [.ref (ad 6 0 0)] h (qI h (fun x => x = 1)) (qN) := by
  refine g_enter (lv := [(0, .ref (ad 6 0 0))]) G.2 (by decide +kernel) (Nat.le_of_ble_eq_true rfl) rfl (fun Γ X Nt E RM => ?_)
  have LG : ∀ (m : Nat) (k : Nat) (x3 : Int32) (hm : m + k = 60) (hi : x3 = nI k), GJ Z Γ h 0 0 51 [(3, .int x3), (2, .int 60), (1, .ref (ad 9 0 0)), (0, .ref (ad 6 0 0))] [] := by
    intro m
    induction m with
    | zero =>
      intro k x3 hm hi
      refine g_iload_n X dX6_isSound_51 rfl ?_
      refine g_iload_n X dX6_isSound_52 rfl ?_
      refine g_icmp_ge 83 X dX6_isSound_53 (by decide) (fun c53 => ?_) (fun c53 => ?_)
      · skip
        refine g_aload_n X dX6_isSound_83 rfl ?_
        refine gp_getl (j := 10) X hR (⟨rfl, rfl⟩) cl_X6 lk_X6_268 rfl (by decide) rfl rfl dX6_isSound_84 (fun x84 e84 => ?_)
        refine g_aload_n X dX6_isSound_87 rfl ?_
        refine gp_V X RM lm_X6_381 (c_X6_moneyOfGuestsInside G hR) cl_X6 hR (show gLive P 6 0 0 from ⟨rfl, rfl⟩) rfl rfl rfl (Nat.le_of_ble_eq_true rfl) (by decide) (by decide) dX6_isSound_88 (fun v hz q => ?_) (fun _ _ q => q.elim)
        obtain ⟨x88, rfl, e88, rfl⟩ := q
        refine GJ.seq (st' := [.long x88, .long x84]) rfl ?_
        refine g_aload_n X dX6_isSound_91 rfl ?_
        refine gp_getl (j := 12) X hR (⟨rfl, rfl⟩) cl_X6 lk_X6_281 rfl (by decide) rfl rfl dX6_isSound_92 (fun x92 e92 => ?_)
        refine g_ladd X dX6_isSound_95 (fun x95 e95 => ?_)
        refine g_aload_n X dX6_isSound_96 rfl ?_
        refine gp_getl (j := 11) X hR (⟨rfl, rfl⟩) cl_X6 lk_X6_310 rfl (by decide) rfl rfl dX6_isSound_97 (fun x97 e97 => ?_)
        refine g_ladd X dX6_isSound_100 (fun x100 e100 => ?_)
        refine g_lcmp X dX6_isSound_101 (fun x101 e101 => ?_)
        refine g_if_ne 109 X dX6_isSound_102 (by decide) (fun c102 => ?_) (fun c102 => ?_)
        · skip
          exact absurd hmon (by intro hh; exact c102 (by rw [e101, e84, hh, e100, e95, e88, e92, e97]; exact lg_cmp_self _))
        · skip
          refine g_iconst (v := 1) X dX6_isSound_105 (by decide) ?_
          refine g_goto 110 X dX6_isSound_106 (by decide) ?_
          refine g_ireturn X E (by decide) dX6_isSound_110 (by decide) (by decide) ?_
          exact ⟨_, rfl, rfl, rfl⟩
      · skip
        exact absurd c53 (by rw [hi]; exact nI_nlt (b := 60) (by omega) (by omega))
    | succ m ih =>
      intro k x3 hm hi
      refine g_iload_n X dX6_isSound_51 rfl ?_
      refine g_iload_n X dX6_isSound_52 rfl ?_
      refine g_icmp_ge 83 X dX6_isSound_53 (by decide) (fun c53 => ?_) (fun c53 => ?_)
      · skip
        exact absurd (by rw [hi]; exact nI_lt (b := 60) (by omega) (by omega)) c53
      · skip
        refine g_aload_n X dX6_isSound_56 rfl ?_
        refine g_iload_n X dX6_isSound_57 rfl ?_
        refine gp_aald_if (j := k) X hR (⟨rfl, rfl⟩) G.t2 rfl hi (by omega) (by decide) dX6_isSound_58 (fun h58 => ?_) (fun h58 => ?_)
        · skip
          have hl58 : gLive P 1 k 0 := ⟨h58, rfl⟩
          refine g_astore (lv' := [(4, .ref (ad 1 k 0)), (3, .int x3), (2, .int 60), (1, .ref (ad 9 0 0)), (0, .ref (ad 6 0 0))]) X dX6_isSound_59 (by decide) rfl ?_
          refine g_aload X dX6_isSound_61 rfl ?_
          refine g_ifnull X dX6_isSound_63 ?_
          refine g_aload_n X dX6_isSound_66 rfl ?_
          refine g_aload X dX6_isSound_67 rfl ?_
          refine gp_V X RM lm_X6_399 (c_X6_isInOnePlace G hR hWt hl58 (hp k h58).1 (hp k h58).2) cl_X6 hR (show gLive P 6 0 0 from ⟨rfl, rfl⟩) rfl rfl rfl (Nat.le_of_ble_eq_true rfl) (by decide) (by decide) dX6_isSound_69 (fun v hz q => ?_) (fun _ _ q => q.elim)
          obtain ⟨x69, rfl, e69, rfl⟩ := q
          refine GJ.seq (st' := [.int x69]) rfl ?_
          refine g_if_ne 77 X dX6_isSound_72 (by decide) (fun c72 => ?_) (fun c72 => ?_)
          · skip
            refine gp_iinc 1 X dX6_isSound_77 rfl (by decide) (fun x77 e77 => ?_)
            refine GJ.leq (lv' := [(3, .int x77), (4, .ref (ad 1 k 0)), (2, .int 60), (1, .ref (ad 9 0 0)), (0, .ref (ad 6 0 0))]) rfl ?_
            refine g_goto 51 X dX6_isSound_80 (by decide) ?_
            refine GJ.pick [0, 2, 3, 4] rfl ?_
            exact ih (k + 1) x77 (by omega) (by rw [e77, hi]; exact nI_1 k)
          · skip
            exact absurd e69 (by rw [c72]; decide)
        · skip
          refine g_astoreN (lv' := [(4, .null), (3, .int x3), (2, .int 60), (1, .ref (ad 9 0 0)), (0, .ref (ad 6 0 0))]) X dX6_isSound_59 (by decide) rfl ?_
          refine g_aloadN X dX6_isSound_61 rfl ?_
          refine g_ifnullN 77 X dX6_isSound_63 (by decide) ?_
          refine gp_iinc 1 X dX6_isSound_77 rfl (by decide) (fun x77 e77 => ?_)
          refine GJ.leq (lv' := [(3, .int x77), (4, .null), (2, .int 60), (1, .ref (ad 9 0 0)), (0, .ref (ad 6 0 0))]) rfl ?_
          refine g_goto 51 X dX6_isSound_80 (by decide) ?_
          refine GJ.pick [0, 2, 3, 4] rfl ?_
          exact ih (k + 1) x77 (by omega) (by rw [e77, hi]; exact nI_1 k)
  have LR : ∀ (m : Nat) (k : Nat) (x3 : Int32) (hm : m + k = 4) (hi : x3 = nI k), GJ Z Γ h 0 0 10 [(3, .int x3), (2, .int 4), (1, .ref (ad 7 0 0)), (0, .ref (ad 6 0 0))] [] := by
    intro m
    induction m with
    | zero =>
      intro k x3 hm hi
      refine g_iload_n X dX6_isSound_10 rfl ?_
      refine g_iload_n X dX6_isSound_11 rfl ?_
      refine g_icmp_ge 41 X dX6_isSound_12 (by decide) (fun c12 => ?_) (fun c12 => ?_)
      · skip
        refine g_aload_n X dX6_isSound_41 rfl ?_
        refine gp_get (j := 4) (v := .ref (ad 9 0 0)) X hR (⟨rfl, rfl⟩) cl_X6 lk_X6_21 rfl (by decide) rfl rfl dX6_isSound_42 ?_
        refine g_astore_n (lv' := [(1, .ref (ad 9 0 0)), (3, .int x3), (2, .int 4), (0, .ref (ad 6 0 0))]) X dX6_isSound_45 (by decide) rfl ?_
        refine g_aload_n X dX6_isSound_46 rfl ?_
        refine gp_alen (v := 60) X hR (⟨rfl, rfl⟩) G.t2 rfl rfl dX6_isSound_47 ?_
        refine g_istore_n (lv' := [(2, .int 60), (1, .ref (ad 9 0 0)), (3, .int x3), (0, .ref (ad 6 0 0))]) X dX6_isSound_48 (by decide) rfl ?_
        refine g_iconst (v := 0) X dX6_isSound_49 (by decide) ?_
        refine g_istore_n (lv' := [(3, .int 0), (2, .int 60), (1, .ref (ad 9 0 0)), (0, .ref (ad 6 0 0))]) X dX6_isSound_50 (by decide) rfl ?_
        exact LG 60 0 0 rfl rfl
      · skip
        exact absurd c12 (by rw [hi]; exact nI_nlt (b := 4) (by omega) (by omega))
    | succ m ih =>
      intro k x3 hm hi
      refine g_iload_n X dX6_isSound_10 rfl ?_
      refine g_iload_n X dX6_isSound_11 rfl ?_
      refine g_icmp_ge 41 X dX6_isSound_12 (by decide) (fun c12 => ?_) (fun c12 => ?_)
      · skip
        exact absurd (by rw [hi]; exact nI_lt (b := 4) (by omega) (by omega)) c12
      · skip
        refine g_aload_n X dX6_isSound_15 rfl ?_
        refine g_iload_n X dX6_isSound_16 rfl ?_
        refine gp_aald_if (j := k) X hR (⟨rfl, rfl⟩) G.t0 rfl hi (by omega) (by decide) dX6_isSound_17 (fun h17 => ?_) (fun h17 => ?_)
        · skip
          have hl17 : gLive P 3 k 0 := ⟨h17, rfl⟩
          refine g_astore (lv' := [(4, .ref (ad 3 k 0)), (3, .int x3), (2, .int 4), (1, .ref (ad 7 0 0)), (0, .ref (ad 6 0 0))]) X dX6_isSound_18 (by decide) rfl ?_
          refine g_aload X dX6_isSound_20 rfl ?_
          refine g_ifnull X dX6_isSound_22 ?_
          refine g_aload X dX6_isSound_25 rfl ?_
          refine gp_V X RM lm_X6_396 (c_X3_areHoldsSound G hR hl17 (hs k h17)) cl_X3 hR hl17 rfl rfl rfl (Nat.le_of_ble_eq_true rfl) (by decide) (by decide) dX6_isSound_27 (fun v hz q => ?_) (fun _ _ q => q.elim)
          obtain ⟨x27, rfl, e27, rfl⟩ := q
          refine GJ.seq (st' := [.int x27]) rfl ?_
          refine g_if_ne 35 X dX6_isSound_30 (by decide) (fun c30 => ?_) (fun c30 => ?_)
          · skip
            refine gp_iinc 1 X dX6_isSound_35 rfl (by decide) (fun x35 e35 => ?_)
            refine GJ.leq (lv' := [(3, .int x35), (4, .ref (ad 3 k 0)), (2, .int 4), (1, .ref (ad 7 0 0)), (0, .ref (ad 6 0 0))]) rfl ?_
            refine g_goto 10 X dX6_isSound_38 (by decide) ?_
            refine GJ.pick [0, 2, 3, 4] rfl ?_
            exact ih (k + 1) x35 (by omega) (by rw [e35, hi]; exact nI_1 k)
          · skip
            exact absurd e27 (by rw [c30]; decide)
        · skip
          refine g_astoreN (lv' := [(4, .null), (3, .int x3), (2, .int 4), (1, .ref (ad 7 0 0)), (0, .ref (ad 6 0 0))]) X dX6_isSound_18 (by decide) rfl ?_
          refine g_aloadN X dX6_isSound_20 rfl ?_
          refine g_ifnullN 35 X dX6_isSound_22 (by decide) ?_
          refine gp_iinc 1 X dX6_isSound_35 rfl (by decide) (fun x35 e35 => ?_)
          refine GJ.leq (lv' := [(3, .int x35), (4, .null), (2, .int 4), (1, .ref (ad 7 0 0)), (0, .ref (ad 6 0 0))]) rfl ?_
          refine g_goto 10 X dX6_isSound_38 (by decide) ?_
          refine GJ.pick [0, 2, 3, 4] rfl ?_
          exact ih (k + 1) x35 (by omega) (by rw [e35, hi]; exact nI_1 k)
  refine g_aload_n X dX6_isSound_0 rfl ?_
  refine gp_get (j := 0) (v := .ref (ad 7 0 0)) X hR (⟨rfl, rfl⟩) cl_X6 lk_X6_11 rfl (by decide) rfl rfl dX6_isSound_1 ?_
  refine g_astore_n (lv' := [(1, .ref (ad 7 0 0)), (0, .ref (ad 6 0 0))]) X dX6_isSound_4 (by decide) rfl ?_
  refine g_aload_n X dX6_isSound_5 rfl ?_
  refine gp_alen (v := 4) X hR (⟨rfl, rfl⟩) G.t0 rfl rfl dX6_isSound_6 ?_
  refine g_istore_n (lv' := [(2, .int 4), (1, .ref (ad 7 0 0)), (0, .ref (ad 6 0 0))]) X dX6_isSound_7 (by decide) rfl ?_
  refine g_iconst (v := 0) X dX6_isSound_8 (by decide) ?_
  refine g_istore_n (lv' := [(3, .int 0), (2, .int 4), (1, .ref (ad 7 0 0)), (0, .ref (ad 6 0 0))]) X dX6_isSound_9 (by decide) rfl ?_
  exact LR 4 0 0 rfl rfl
theorem fKSt_chr (P : gP) (r : Nat) (w lt : Int32) : narrow .char (.int (fKSt P r w lt)) = .int (fKSt P r w lt) := by
  unfold fKSt
  split
  · rfl
  · split
    · rfl
    · split
      · rfl
      · split
        · rfl
        · split
          · rfl
          · exact fKS_chr _ _ _ _ _
set_option maxHeartbeats 4000000 in
set_option maxRecDepth 100000 in
theorem c_X6_keeps {Z : gEnv} {ad : gAd} {P : gP} {h : gH} (G : gG Z) (hR : gRep Z ad P h) (hW : Wf P) {x : Int32} {r : Nat} (hx : x = nI r) (hr : r < pnR P) : gMet Z yX6_keeps cX6_keeps 2 ((Option.some FieldType.char)) 7 0 0 [.ref (ad 6 0 0), .int x] h (qI h (fun y => y = fKp P r)) (qN) := by
  refine g_enter (lv := [(0, .ref (ad 6 0 0)), (1, .int x)]) G.2 (by decide +kernel) (Nat.le_of_ble_eq_true rfl) rfl (fun Γ X Nt E RM => ?_)
  have hl3 : gLive P 3 r 0 := ⟨hr, rfl⟩
  have hB : pnB P r ≤ 12 := hW.nB hr
  have hT4 : pnT P r ≤ 4 := hW.nT hr
  have hC : gChrs P r := hW.chr hr
  have hcl : ¬ pI P 4 r 0 2 = 0 → 0 < pnB P r := hW.cl hr
  refine g_aload_n X dX6_keeps_0 rfl ?_
  refine g_iload_n X dX6_keeps_1 rfl ?_
  refine gp_V X RM lm_X6_48 (c_X6_rideAt G hR hW hx hr) cl_X6 hR (show gLive P 6 0 0 from ⟨rfl, rfl⟩) rfl rfl rfl (Nat.le_of_ble_eq_true rfl) (by decide) (by decide) dX6_keeps_2 (fun v hz q => ?_) (fun _ _ q => q.elim)
  obtain ⟨w2, rfl, e2, rfl⟩ := q
  rcases e2 with rfl
  · skip
    refine GJ.seq (st' := [.ref (ad 3 r 0)]) rfl ?_
    refine g_aload_n X dX6_keeps_5 rfl ?_
    refine gp_geti (j := 6) X hR (⟨rfl, rfl⟩) cl_X6 lk_X6_199 rfl (by decide) rfl rfl dX6_keeps_6 (fun x6 e6 => ?_)
    refine g_aload_n X dX6_keeps_9 rfl ?_
    refine gp_V X RM lm_X6_217 (c_X6_isLightningNear G hR) cl_X6 hR (show gLive P 6 0 0 from ⟨rfl, rfl⟩) rfl rfl rfl (Nat.le_of_ble_eq_true rfl) (by decide) (by decide) dX6_keeps_10 (fun v hz q => ?_) (fun _ _ q => q.elim)
    obtain ⟨x10, rfl, e10, rfl⟩ := q
    refine GJ.seq (st' := [.int x10, .int x6, .ref (ad 3 r 0)]) rfl ?_
    refine gp_V X RM lm_X6_220 (c_X3_whatKeepsInStation G hR hl3 hB hC hcl) cl_X3 hR hl3 rfl rfl rfl (Nat.le_of_ble_eq_true rfl) (by decide) (by decide) dX6_keeps_13 (fun v hz q => ?_) (fun _ _ q => q.elim)
    obtain ⟨x13, rfl, e13, rfl⟩ := q
    refine GJ.seq (st' := [.int x13]) rfl ?_
    refine g_ireturn X E (by rw [e13]; exact fKSt_chr _ _ _ _) dX6_keeps_16 (by decide) (by decide) ?_
    exact ⟨_, rfl, by rw [e13, e6, e10]; rfl, rfl⟩
set_option maxHeartbeats 4000000 in
set_option maxRecDepth 100000 in
theorem c_X6_isHeld {Z : gEnv} {ad : gAd} {P : gP} {h : gH} (G : gG Z) (hR : gRep Z ad P h) (hW : Wf P) {x : Int32} {r : Nat} (hx : x = nI r) (hr : r < pnR P) {z : Int32} : gMet Z yX6_isHeld cX6_isHeld 4 ((Option.some FieldType.boolean)) 8 1 6 [.ref (ad 6 0 0), .int x, .int z] h (qI h (fun y => (∃ b, z = nI b ∧ b < pnB P r) ∧ ((y = 1 ∧ ∃ i, i < pnT P r ∧ ¬ pI P 5 r i 6 &&& (1 <<< (z &&& 31)) = 0) ∨ (y = 0 ∧ ∀ i, i < pnT P r → pI P 5 r i 6 &&& (1 <<< (z &&& 31)) = 0)))) (qT h (fun E => E = eIDX ∧ ∀ i, i < pnB P r → z ≠ nI i)) := by
  refine g_enter (lv := [(0, .ref (ad 6 0 0)), (1, .int x), (2, .int z)]) G.2 (by decide +kernel) (Nat.le_of_ble_eq_true rfl) rfl (fun Γ X Nt E RM => ?_)
  have hl3 : gLive P 3 r 0 := ⟨hr, rfl⟩
  have hB : pnB P r ≤ 12 := hW.nB hr
  have hT4 : pnT P r ≤ 4 := hW.nT hr
  have hC : gChrs P r := hW.chr hr
  have hcl : ¬ pI P 4 r 0 2 = 0 → 0 < pnB P r := hW.cl hr
  refine g_aload_n X dX6_isHeld_0 rfl ?_
  refine g_iload_n X dX6_isHeld_1 rfl ?_
  refine gp_V X RM lm_X6_48 (c_X6_rideAt G hR hW hx hr) cl_X6 hR (show gLive P 6 0 0 from ⟨rfl, rfl⟩) rfl rfl rfl (Nat.le_of_ble_eq_true rfl) (by decide) (by decide) dX6_isHeld_2 (fun v hz q => ?_) (fun _ _ q => q.elim)
  obtain ⟨w2, rfl, e2, rfl⟩ := q
  rcases e2 with rfl
  · skip
    refine GJ.seq (st' := [.ref (ad 3 r 0)]) rfl ?_
    refine g_astore_n (lv' := [(3, .ref (ad 3 r 0)), (0, .ref (ad 6 0 0)), (1, .int x), (2, .int z)]) X dX6_isHeld_5 (by decide) rfl ?_
    refine g_aload_n X dX6_isHeld_6 rfl ?_
    refine gp_get (j := 3) (v := .ref (ad 4 r 0)) X hR hl3 cl_X3 lk_X6_52 rfl (by decide) rfl rfl dX6_isHeld_7 ?_
    refine g_iload_n X dX6_isHeld_10 rfl ?_
    refine gp_S X RM lm_X6_342 (c_X6_checkBlock G hR hl3 hB) rfl rfl (Nat.le_of_ble_eq_true rfl) (by decide) (by decide) dX6_isHeld_11 (fun v hz q => ?_) (fun E1 hz q => ?_)
    · skip
      obtain ⟨rfl, e11, rfl⟩ := q
      refine GJ.seq (st' := []) rfl ?_
      refine g_aload_n X dX6_isHeld_14 rfl ?_
      refine g_iload_n X dX6_isHeld_15 rfl ?_
      refine gp_V X RM lm_X6_99 (c_X3_isBlockHeld G hR hl3 hT4) cl_X3 hR hl3 rfl rfl rfl (Nat.le_of_ble_eq_true rfl) (by decide) (by decide) dX6_isHeld_16 (fun v hz q => ?_) (fun _ _ q => q.elim)
      obtain ⟨x16, rfl, e16, rfl⟩ := q
      refine GJ.seq (st' := [.int x16]) rfl ?_
      refine g_ireturn X E (by rcases e16 with e | e <;> (rw [e.1]; decide)) dX6_isHeld_19 (by decide) (by decide) ?_
      exact ⟨_, rfl, ⟨e11, e16⟩, rfl⟩
    · skip
      obtain ⟨hq, rfl⟩ := q
      exact g_out X Nt E (by decide) (by decide) ⟨hq, rfl⟩
set_option maxHeartbeats 4000000 in
set_option maxRecDepth 100000 in
theorem c_X6_sees {Z : gEnv} {ad : gAd} {P : gP} {h : gH} (G : gG Z) (hR : gRep Z ad P h) (hW : Wf P) {x : Int32} {r : Nat} (hx : x = nI r) (hr : r < pnR P) {z p : Int32} (hp : p = 0 ∨ p = 1) : gMet Z yX6_sees cX6_sees 5 ((Option.some FieldType.boolean)) 8 1 6 [.ref (ad 6 0 0), .int x, .int z, .int p] h (qI h (fun y => y = 0 ∨ y = 1)) (qT h (fun E => E = eIDX ∧ ∀ i, i < pnB P r → z ≠ nI i)) := by
  refine g_enter (lv := [(0, .ref (ad 6 0 0)), (1, .int x), (2, .int z), (3, .int p)]) G.2 (by decide +kernel) (Nat.le_of_ble_eq_true rfl) rfl (fun Γ X Nt E RM => ?_)
  have hl3 : gLive P 3 r 0 := ⟨hr, rfl⟩
  have hB : pnB P r ≤ 12 := hW.nB hr
  have hT4 : pnT P r ≤ 4 := hW.nT hr
  have hC : gChrs P r := hW.chr hr
  have hcl : ¬ pI P 4 r 0 2 = 0 → 0 < pnB P r := hW.cl hr
  refine g_aload_n X dX6_sees_0 rfl ?_
  refine g_iload_n X dX6_sees_1 rfl ?_
  refine gp_V X RM lm_X6_48 (c_X6_rideAt G hR hW hx hr) cl_X6 hR (show gLive P 6 0 0 from ⟨rfl, rfl⟩) rfl rfl rfl (Nat.le_of_ble_eq_true rfl) (by decide) (by decide) dX6_sees_2 (fun v hz q => ?_) (fun _ _ q => q.elim)
  obtain ⟨w2, rfl, e2, rfl⟩ := q
  rcases e2 with rfl
  · skip
    refine GJ.seq (st' := [.ref (ad 3 r 0)]) rfl ?_
    refine g_astore (lv' := [(4, .ref (ad 3 r 0)), (0, .ref (ad 6 0 0)), (1, .int x), (2, .int z), (3, .int p)]) X dX6_sees_5 (by decide) rfl ?_
    refine g_aload X dX6_sees_7 rfl ?_
    refine gp_get (j := 3) (v := .ref (ad 4 r 0)) X hR hl3 cl_X3 lk_X6_52 rfl (by decide) rfl rfl dX6_sees_9 ?_
    refine g_iload_n X dX6_sees_12 rfl ?_
    refine gp_S X RM lm_X6_342 (c_X6_checkBlock G hR hl3 hB) rfl rfl (Nat.le_of_ble_eq_true rfl) (by decide) (by decide) dX6_sees_13 (fun v hz q => ?_) (fun E1 hz q => ?_)
    · skip
      obtain ⟨rfl, e13, rfl⟩ := q
      refine GJ.seq (st' := []) rfl ?_
      refine g_iload_n X dX6_sees_16 rfl ?_
      refine gp_S X RM lm_X6_173 (c_X6_checkProcessor G hR hp) rfl rfl (Nat.le_of_ble_eq_true rfl) (by decide) (by decide) dX6_sees_17 (fun v hz q => ?_) (fun _ _ q => q.elim)
      obtain ⟨rfl, e17, rfl⟩ := q
      refine GJ.seq (st' := []) rfl ?_
      refine g_aload X dX6_sees_20 rfl ?_
      refine g_iload_n X dX6_sees_22 rfl ?_
      refine g_iload_n X dX6_sees_23 rfl ?_
      refine gp_V X RM lm_X6_352 (c_X3_isSeen G hR hl3 hB hC) cl_X3 hR hl3 rfl rfl rfl (Nat.le_of_ble_eq_true rfl) (by decide) (by decide) dX6_sees_24 (fun v hz q => ?_) (fun _ _ q => q.elim)
      obtain ⟨x24, rfl, e24, rfl⟩ := q
      refine GJ.seq (st' := [.int x24]) rfl ?_
      refine g_ireturn X E (by rcases e24 with e | e <;> (rw [e]; decide)) dX6_sees_27 (by decide) (by decide) ?_
      exact ⟨_, rfl, e24, rfl⟩
    · skip
      obtain ⟨hq, rfl⟩ := q
      exact g_out X Nt E (by decide) (by decide) ⟨hq, rfl⟩
set_option maxHeartbeats 4000000 in
set_option maxRecDepth 100000 in
theorem c_X6_blockOf {Z : gEnv} {ad : gAd} {P : gP} {h : gH} (G : gG Z) (hR : gRep Z ad P h) (hW : Wf P) {x : Int32} {r : Nat} (hx : x = nI r) (hr : r < pnR P) {z : Int32} : gMet Z yX6_blockOf cX6_blockOf 3 ((Option.some FieldType.int)) 8 1 6 [.ref (ad 6 0 0), .int x, .int z] h (qI h (fun y => ∃ i, z = nI i ∧ i < pnT P r ∧ y = pI P 5 r i 3)) (qT h (fun E => E = eIDX ∧ ∀ i, i < pnT P r → z ≠ nI i)) := by
  refine g_enter (lv := [(0, .ref (ad 6 0 0)), (1, .int x), (2, .int z)]) G.2 (by decide +kernel) (Nat.le_of_ble_eq_true rfl) rfl (fun Γ X Nt E RM => ?_)
  have hl3 : gLive P 3 r 0 := ⟨hr, rfl⟩
  have hB : pnB P r ≤ 12 := hW.nB hr
  have hT4 : pnT P r ≤ 4 := hW.nT hr
  have hC : gChrs P r := hW.chr hr
  have hcl : ¬ pI P 4 r 0 2 = 0 → 0 < pnB P r := hW.cl hr
  refine g_aload_n X dX6_blockOf_0 rfl ?_
  refine g_iload_n X dX6_blockOf_1 rfl ?_
  refine gp_V X RM lm_X6_48 (c_X6_rideAt G hR hW hx hr) cl_X6 hR (show gLive P 6 0 0 from ⟨rfl, rfl⟩) rfl rfl rfl (Nat.le_of_ble_eq_true rfl) (by decide) (by decide) dX6_blockOf_2 (fun v hz q => ?_) (fun _ _ q => q.elim)
  obtain ⟨w2, rfl, e2, rfl⟩ := q
  rcases e2 with rfl
  · skip
    refine GJ.seq (st' := [.ref (ad 3 r 0)]) rfl ?_
    refine g_iload_n X dX6_blockOf_5 rfl ?_
    refine gp_S X RM lm_X6_233 (c_X6_trainAt G hR hl3 hT4) rfl rfl (Nat.le_of_ble_eq_true rfl) (by decide) (by decide) dX6_blockOf_6 (fun v hz q => ?_) (fun E1 hz q => ?_)
    · skip
      obtain ⟨w6, rfl, e6, rfl⟩ := q
      rcases e6 with ⟨j6, f6, k6, rfl⟩
      · skip
        have hl6 : gLive P 5 r j6 := ⟨hr, k6⟩
        refine GJ.seq (st' := [.ref (ad 5 r j6)]) rfl ?_
        refine gp_geti (j := 3) X hR hl6 cl_X5 lk_X6_243 rfl (by decide) rfl rfl dX6_blockOf_9 (fun x9 e9 => ?_)
        refine g_ireturn X E rfl dX6_blockOf_12 (by decide) (by decide) ?_
        exact ⟨_, rfl, ⟨j6, f6, k6, e9⟩, rfl⟩
    · skip
      obtain ⟨hq, rfl⟩ := q
      exact g_out X Nt E (by decide) (by decide) ⟨hq, rfl⟩
set_option maxHeartbeats 4000000 in
set_option maxRecDepth 100000 in
theorem c_X6_energy {Z : gEnv} {ad : gAd} {P : gP} {h : gH} (G : gG Z) (hR : gRep Z ad P h) (hW : Wf P) {x : Int32} {r : Nat} (hx : x = nI r) (hr : r < pnR P) {z : Int32} : gMet Z yX6_energy cX6_energy 3 ((Option.some FieldType.int)) 8 1 6 [.ref (ad 6 0 0), .int x, .int z] h (qI h (fun y => ∃ i, z = nI i ∧ i < pnT P r ∧ y = pI P 5 r i 4)) (qT h (fun E => E = eIDX ∧ ∀ i, i < pnT P r → z ≠ nI i)) := by
  refine g_enter (lv := [(0, .ref (ad 6 0 0)), (1, .int x), (2, .int z)]) G.2 (by decide +kernel) (Nat.le_of_ble_eq_true rfl) rfl (fun Γ X Nt E RM => ?_)
  have hl3 : gLive P 3 r 0 := ⟨hr, rfl⟩
  have hB : pnB P r ≤ 12 := hW.nB hr
  have hT4 : pnT P r ≤ 4 := hW.nT hr
  have hC : gChrs P r := hW.chr hr
  have hcl : ¬ pI P 4 r 0 2 = 0 → 0 < pnB P r := hW.cl hr
  refine g_aload_n X dX6_energy_0 rfl ?_
  refine g_iload_n X dX6_energy_1 rfl ?_
  refine gp_V X RM lm_X6_48 (c_X6_rideAt G hR hW hx hr) cl_X6 hR (show gLive P 6 0 0 from ⟨rfl, rfl⟩) rfl rfl rfl (Nat.le_of_ble_eq_true rfl) (by decide) (by decide) dX6_energy_2 (fun v hz q => ?_) (fun _ _ q => q.elim)
  obtain ⟨w2, rfl, e2, rfl⟩ := q
  rcases e2 with rfl
  · skip
    refine GJ.seq (st' := [.ref (ad 3 r 0)]) rfl ?_
    refine g_iload_n X dX6_energy_5 rfl ?_
    refine gp_S X RM lm_X6_233 (c_X6_trainAt G hR hl3 hT4) rfl rfl (Nat.le_of_ble_eq_true rfl) (by decide) (by decide) dX6_energy_6 (fun v hz q => ?_) (fun E1 hz q => ?_)
    · skip
      obtain ⟨w6, rfl, e6, rfl⟩ := q
      rcases e6 with ⟨j6, f6, k6, rfl⟩
      · skip
        have hl6 : gLive P 5 r j6 := ⟨hr, k6⟩
        refine GJ.seq (st' := [.ref (ad 5 r j6)]) rfl ?_
        refine gp_geti (j := 4) X hR hl6 cl_X5 lk_X6_355 rfl (by decide) rfl rfl dX6_energy_9 (fun x9 e9 => ?_)
        refine g_ireturn X E rfl dX6_energy_12 (by decide) (by decide) ?_
        exact ⟨_, rfl, ⟨j6, f6, k6, e9⟩, rfl⟩
    · skip
      obtain ⟨hq, rfl⟩ := q
      exact g_out X Nt E (by decide) (by decide) ⟨hq, rfl⟩
set_option maxHeartbeats 4000000 in
set_option maxRecDepth 100000 in
theorem c_X6_stateOf {Z : gEnv} {ad : gAd} {P : gP} {h : gH} (G : gG Z) (hR : gRep Z ad P h) (hW : Wf P) {x : Int32} {r : Nat} (hx : x = nI r) (hr : r < pnR P) {z : Int32} : gMet Z yX6_stateOf cX6_stateOf 3 ((Option.some FieldType.char)) 8 1 6 [.ref (ad 6 0 0), .int x, .int z] h (qI h (fun y => ∃ i, z = nI i ∧ i < pnT P r ∧ y = pI P 5 r i 5)) (qT h (fun E => E = eIDX ∧ ∀ i, i < pnT P r → z ≠ nI i)) := by
  refine g_enter (lv := [(0, .ref (ad 6 0 0)), (1, .int x), (2, .int z)]) G.2 (by decide +kernel) (Nat.le_of_ble_eq_true rfl) rfl (fun Γ X Nt E RM => ?_)
  have hl3 : gLive P 3 r 0 := ⟨hr, rfl⟩
  have hB : pnB P r ≤ 12 := hW.nB hr
  have hT4 : pnT P r ≤ 4 := hW.nT hr
  have hC : gChrs P r := hW.chr hr
  have hcl : ¬ pI P 4 r 0 2 = 0 → 0 < pnB P r := hW.cl hr
  refine g_aload_n X dX6_stateOf_0 rfl ?_
  refine g_iload_n X dX6_stateOf_1 rfl ?_
  refine gp_V X RM lm_X6_48 (c_X6_rideAt G hR hW hx hr) cl_X6 hR (show gLive P 6 0 0 from ⟨rfl, rfl⟩) rfl rfl rfl (Nat.le_of_ble_eq_true rfl) (by decide) (by decide) dX6_stateOf_2 (fun v hz q => ?_) (fun _ _ q => q.elim)
  obtain ⟨w2, rfl, e2, rfl⟩ := q
  rcases e2 with rfl
  · skip
    refine GJ.seq (st' := [.ref (ad 3 r 0)]) rfl ?_
    refine g_iload_n X dX6_stateOf_5 rfl ?_
    refine gp_S X RM lm_X6_233 (c_X6_trainAt G hR hl3 hT4) rfl rfl (Nat.le_of_ble_eq_true rfl) (by decide) (by decide) dX6_stateOf_6 (fun v hz q => ?_) (fun E1 hz q => ?_)
    · skip
      obtain ⟨w6, rfl, e6, rfl⟩ := q
      rcases e6 with ⟨j6, f6, k6, rfl⟩
      · skip
        have hl6 : gLive P 5 r j6 := ⟨hr, k6⟩
        refine GJ.seq (st' := [.ref (ad 5 r j6)]) rfl ?_
        refine gp_geti (j := 5) X hR hl6 cl_X5 lk_X6_237 rfl (by decide) rfl rfl dX6_stateOf_9 (fun x9 e9 => ?_)
        refine g_ireturn X E (by rw [e9]; exact (hW.tst hr k6).1) dX6_stateOf_12 (by decide) (by decide) ?_
        exact ⟨_, rfl, ⟨j6, f6, k6, e9⟩, rfl⟩
    · skip
      obtain ⟨hq, rfl⟩ := q
      exact g_out X Nt E (by decide) (by decide) ⟨hq, rfl⟩
set_option maxHeartbeats 4000000 in
set_option maxRecDepth 100000 in
theorem c_X6_aboard {Z : gEnv} {ad : gAd} {P : gP} {h : gH} (G : gG Z) (hR : gRep Z ad P h) (hW : Wf P) {x : Int32} {r : Nat} (hx : x = nI r) (hr : r < pnR P) {z : Int32} : gMet Z yX6_aboard cX6_aboard 3 ((Option.some FieldType.int)) 8 1 6 [.ref (ad 6 0 0), .int x, .int z] h (qI h (fun y => ∃ i, z = nI i ∧ i < pnT P r ∧ y = pI P 5 r i 2)) (qT h (fun E => E = eIDX ∧ ∀ i, i < pnT P r → z ≠ nI i)) := by
  refine g_enter (lv := [(0, .ref (ad 6 0 0)), (1, .int x), (2, .int z)]) G.2 (by decide +kernel) (Nat.le_of_ble_eq_true rfl) rfl (fun Γ X Nt E RM => ?_)
  have hl3 : gLive P 3 r 0 := ⟨hr, rfl⟩
  have hB : pnB P r ≤ 12 := hW.nB hr
  have hT4 : pnT P r ≤ 4 := hW.nT hr
  have hC : gChrs P r := hW.chr hr
  have hcl : ¬ pI P 4 r 0 2 = 0 → 0 < pnB P r := hW.cl hr
  refine g_aload_n X dX6_aboard_0 rfl ?_
  refine g_iload_n X dX6_aboard_1 rfl ?_
  refine gp_V X RM lm_X6_48 (c_X6_rideAt G hR hW hx hr) cl_X6 hR (show gLive P 6 0 0 from ⟨rfl, rfl⟩) rfl rfl rfl (Nat.le_of_ble_eq_true rfl) (by decide) (by decide) dX6_aboard_2 (fun v hz q => ?_) (fun _ _ q => q.elim)
  obtain ⟨w2, rfl, e2, rfl⟩ := q
  rcases e2 with rfl
  · skip
    refine GJ.seq (st' := [.ref (ad 3 r 0)]) rfl ?_
    refine g_iload_n X dX6_aboard_5 rfl ?_
    refine gp_S X RM lm_X6_233 (c_X6_trainAt G hR hl3 hT4) rfl rfl (Nat.le_of_ble_eq_true rfl) (by decide) (by decide) dX6_aboard_6 (fun v hz q => ?_) (fun E1 hz q => ?_)
    · skip
      obtain ⟨w6, rfl, e6, rfl⟩ := q
      rcases e6 with ⟨j6, f6, k6, rfl⟩
      · skip
        have hl6 : gLive P 5 r j6 := ⟨hr, k6⟩
        refine GJ.seq (st' := [.ref (ad 5 r j6)]) rfl ?_
        refine gp_geti (j := 2) X hR hl6 cl_X5 lk_X6_358 rfl (by decide) rfl rfl dX6_aboard_9 (fun x9 e9 => ?_)
        refine g_ireturn X E rfl dX6_aboard_12 (by decide) (by decide) ?_
        exact ⟨_, rfl, ⟨j6, f6, k6, e9⟩, rfl⟩
    · skip
      obtain ⟨hq, rfl⟩ := q
      exact g_out X Nt E (by decide) (by decide) ⟨hq, rfl⟩
set_option maxHeartbeats 4000000 in
set_option maxRecDepth 100000 in
theorem c_X6_waiting {Z : gEnv} {ad : gAd} {P : gP} {h : gH} (G : gG Z) (hR : gRep Z ad P h) (hW : Wf P) {x : Int32} {r : Nat} (hx : x = nI r) (hr : r < pnR P) {c : Int32} {q : Nat} (hq : c = 108 ∧ q = 0 ∨ c = 115 ∧ q = 1 ∨ c = 114 ∧ q = 2) : gMet Z yX6_waiting cX6_waiting 3 ((Option.some FieldType.int)) 3 0 0 [.ref (ad 6 0 0), .int x, .int c] h (qI h (fun y => y = pI P 2 r q 1)) (qN) := by
  refine g_enter (lv := [(0, .ref (ad 6 0 0)), (1, .int x), (2, .int c)]) G.2 (by decide +kernel) (Nat.le_of_ble_eq_true rfl) rfl (fun Γ X Nt E RM => ?_)
  have hl3 : gLive P 3 r 0 := ⟨hr, rfl⟩
  have hB : pnB P r ≤ 12 := hW.nB hr
  have hT4 : pnT P r ≤ 4 := hW.nT hr
  have hC : gChrs P r := hW.chr hr
  have hcl : ¬ pI P 4 r 0 2 = 0 → 0 < pnB P r := hW.cl hr
  refine g_aload_n X dX6_waiting_0 rfl ?_
  refine g_iload_n X dX6_waiting_1 rfl ?_
  refine gp_V X RM lm_X6_48 (c_X6_rideAt G hR hW hx hr) cl_X6 hR (show gLive P 6 0 0 from ⟨rfl, rfl⟩) rfl rfl rfl (Nat.le_of_ble_eq_true rfl) (by decide) (by decide) dX6_waiting_2 (fun v hz q => ?_) (fun _ _ q => q.elim)
  obtain ⟨w2, rfl, e2, rfl⟩ := q
  rcases e2 with rfl
  · skip
    refine GJ.seq (st' := [.ref (ad 3 r 0)]) rfl ?_
    refine g_iload_n X dX6_waiting_5 rfl ?_
    refine gp_S X RM lm_X6_287 (c_X6_lineAt G hR hl3 hq) rfl rfl (Nat.le_of_ble_eq_true rfl) (by decide) (by decide) dX6_waiting_6 (fun v hz q => ?_) (fun _ _ q => q.elim)
    obtain ⟨w6, rfl, e6, rfl⟩ := q
    rcases e6 with rfl
    · skip
      have hq3 : q < 3 := by rcases hq with e | e | e <;> (rw [e.2]; decide)
      have hlq : gLive P 2 r q := ⟨hr, hq3⟩
      refine GJ.seq (st' := [.ref (ad 2 r q)]) rfl ?_
      refine gp_geti (j := 1) X hR hlq cl_X2 lk_X6_313 rfl (by decide) rfl rfl dX6_waiting_9 (fun x9 e9 => ?_)
      refine g_ireturn X E rfl dX6_waiting_12 (by decide) (by decide) ?_
      exact ⟨_, rfl, e9, rfl⟩
set_option maxHeartbeats 4000000 in
set_option maxRecDepth 100000 in
theorem c_X6_whereIs {Z : gEnv} {ad : gAd} {P : gP} {h : gH} (G : gG Z) (hR : gRep Z ad P h) (hW : Wf P) {y : Int32} {g : Nat} (hy : y = nI g) (hg : g < pnG P) : gMet Z yX6_whereIs cX6_whereIs 2 ((Option.some FieldType.char)) 2 0 0 [.ref (ad 6 0 0), .int y] h (qI h (fun z => z = pI P 1 g 0 6)) (qN) := by
  refine g_enter (lv := [(0, .ref (ad 6 0 0)), (1, .int y)]) G.2 (by decide +kernel) (Nat.le_of_ble_eq_true rfl) rfl (fun Γ X Nt E RM => ?_)
  have hlg : gLive P 1 g 0 := ⟨hg, rfl⟩
  refine g_aload_n X dX6_whereIs_0 rfl ?_
  refine g_iload_n X dX6_whereIs_1 rfl ?_
  refine gp_V X RM lm_X6_272 (c_X6_guestAt G hR hW hy hg) cl_X6 hR (show gLive P 6 0 0 from ⟨rfl, rfl⟩) rfl rfl rfl (Nat.le_of_ble_eq_true rfl) (by decide) (by decide) dX6_whereIs_2 (fun v hz q => ?_) (fun _ _ q => q.elim)
  obtain ⟨w2, rfl, e2, rfl⟩ := q
  rcases e2 with rfl
  · skip
    refine GJ.seq (st' := [.ref (ad 1 g 0)]) rfl ?_
    refine gp_geti (j := 6) X hR hlg cl_X1 lk_X6_276 rfl (by decide) rfl rfl dX6_whereIs_5 (fun x5 e5 => ?_)
    refine g_ireturn X E (by rw [e5]; exact (hW.plc hg).1) dX6_whereIs_8 (by decide) (by decide) ?_
    exact ⟨_, rfl, e5, rfl⟩
set_option maxHeartbeats 4000000 in
set_option maxRecDepth 100000 in
theorem c_X6_get {Z : gEnv} {ad : gAd} {P : gP} {h : gH} (G : gG Z) (hR : gRep Z ad P h) (hW : Wf P) {y : Int32} {g : Nat} (hy : y = nI g) (hg : g < pnG P) {k : Int32} (hk : k = 109 ∨ k = 104 ∨ k = 110) : gMet Z yX6_get cX6_get 4 ((Option.some FieldType.int)) 2 0 0 [.ref (ad 6 0 0), .int y, .int k] h (qI h (fun z => z = fGet P g k)) (qN) := by
  refine g_enter (lv := [(0, .ref (ad 6 0 0)), (1, .int y), (2, .int k)]) G.2 (by decide +kernel) (Nat.le_of_ble_eq_true rfl) rfl (fun Γ X Nt E RM => ?_)
  have hlg : gLive P 1 g 0 := ⟨hg, rfl⟩
  refine g_aload_n X dX6_get_0 rfl ?_
  refine g_iload_n X dX6_get_1 rfl ?_
  refine gp_V X RM lm_X6_272 (c_X6_guestAt G hR hW hy hg) cl_X6 hR (show gLive P 6 0 0 from ⟨rfl, rfl⟩) rfl rfl rfl (Nat.le_of_ble_eq_true rfl) (by decide) (by decide) dX6_get_2 (fun v hz q => ?_) (fun _ _ q => q.elim)
  obtain ⟨w2, rfl, e2, rfl⟩ := q
  rcases e2 with rfl
  · skip
    refine GJ.seq (st' := [.ref (ad 1 g 0)]) rfl ?_
    refine g_astore_n (lv' := [(3, .ref (ad 1 g 0)), (0, .ref (ad 6 0 0)), (1, .int y), (2, .int k)]) X dX6_get_5 (by decide) rfl ?_
    refine g_iload_n X dX6_get_6 rfl ?_
    refine g_bipush (v := 109) X dX6_get_7 (by decide) ?_
    refine g_icmp_ne 17 X dX6_get_9 (by decide) (fun c9 => ?_) (fun c9 => ?_)
    · skip
      refine g_iload_n X dX6_get_17 rfl ?_
      refine g_bipush (v := 104) X dX6_get_18 (by decide) ?_
      refine g_icmp_ne 28 X dX6_get_20 (by decide) (fun c20 => ?_) (fun c20 => ?_)
      · skip
        refine g_iload_n X dX6_get_28 rfl ?_
        refine g_bipush (v := 110) X dX6_get_29 (by decide) ?_
        refine g_icmp_ne 39 X dX6_get_31 (by decide) (fun c31 => ?_) (fun c31 => ?_)
        · skip
          exfalso
          simp_all
        · skip
          refine g_aload_n X dX6_get_34 rfl ?_
          refine gp_geti (j := 4) X hR hlg cl_X1 lk_X6_361 rfl (by decide) rfl rfl dX6_get_35 (fun x35 e35 => ?_)
          refine g_ireturn X E rfl dX6_get_38 (by decide) (by decide) ?_
          refine ⟨_, rfl, ?_, rfl⟩
          simp_all [fGet]
      · skip
        refine g_aload_n X dX6_get_23 rfl ?_
        refine gp_geti (j := 3) X hR hlg cl_X1 lk_X6_339 rfl (by decide) rfl rfl dX6_get_24 (fun x24 e24 => ?_)
        refine g_ireturn X E rfl dX6_get_27 (by decide) (by decide) ?_
        refine ⟨_, rfl, ?_, rfl⟩
        simp_all [fGet]
    · skip
      refine g_aload_n X dX6_get_12 rfl ?_
      refine gp_geti (j := 0) X hR hlg cl_X1 lk_X6_284 rfl (by decide) rfl rfl dX6_get_13 (fun x13 e13 => ?_)
      refine g_ireturn X E rfl dX6_get_16 (by decide) (by decide) ?_
      refine ⟨_, rfl, ?_, rfl⟩
      simp_all [fGet]
set_option maxHeartbeats 4000000 in
set_option maxRecDepth 100000 in
theorem c_X6_cycles {Z : gEnv} {ad : gAd} {P : gP} {h : gH} (G : gG Z) (hR : gRep Z ad P h) (hW : Wf P) {x : Int32} {r : Nat} (hx : x = nI r) (hr : r < pnR P) : gMet Z yX6_cycles cX6_cycles 2 ((Option.some FieldType.int)) 2 0 0 [.ref (ad 6 0 0), .int x] h (qI h (fun z => z = pI P 3 r 0 12)) (qN) := by
  refine g_enter (lv := [(0, .ref (ad 6 0 0)), (1, .int x)]) G.2 (by decide +kernel) (Nat.le_of_ble_eq_true rfl) rfl (fun Γ X Nt E RM => ?_)
  have hl3 : gLive P 3 r 0 := ⟨hr, rfl⟩
  have hB : pnB P r ≤ 12 := hW.nB hr
  have hT4 : pnT P r ≤ 4 := hW.nT hr
  have hC : gChrs P r := hW.chr hr
  have hcl : ¬ pI P 4 r 0 2 = 0 → 0 < pnB P r := hW.cl hr
  refine g_aload_n X dX6_cycles_0 rfl ?_
  refine g_iload_n X dX6_cycles_1 rfl ?_
  refine gp_V X RM lm_X6_48 (c_X6_rideAt G hR hW hx hr) cl_X6 hR (show gLive P 6 0 0 from ⟨rfl, rfl⟩) rfl rfl rfl (Nat.le_of_ble_eq_true rfl) (by decide) (by decide) dX6_cycles_2 (fun v hz q => ?_) (fun _ _ q => q.elim)
  obtain ⟨w2, rfl, e2, rfl⟩ := q
  rcases e2 with rfl
  · skip
    refine GJ.seq (st' := [.ref (ad 3 r 0)]) rfl ?_
    refine gp_geti (j := 12) X hR hl3 cl_X3 lk_X6_378 rfl (by decide) rfl rfl dX6_cycles_5 (fun x5 e5 => ?_)
    refine g_ireturn X E rfl dX6_cycles_8 (by decide) (by decide) ?_
    exact ⟨_, rfl, e5, rfl⟩
set_option maxHeartbeats 4000000 in
set_option maxRecDepth 100000 in
theorem c_X6_ticks {Z : gEnv} {ad : gAd} {P : gP} {h : gH} (G : gG Z) (hR : gRep Z ad P h) : gMet Z yX6_ticks cX6_ticks 1 ((Option.some FieldType.int)) 1 0 0 [.ref (ad 6 0 0)] h (qI h (fun z => z = pI P 6 0 0 7)) (qN) := by
  refine g_enter (lv := [(0, .ref (ad 6 0 0))]) G.2 (by decide +kernel) (Nat.le_of_ble_eq_true rfl) rfl (fun Γ X Nt E RM => ?_)
  refine g_aload_n X dX6_ticks_0 rfl ?_
  refine gp_geti (j := 7) X hR (⟨rfl, rfl⟩) cl_X6 lk_X6_207 rfl (by decide) rfl rfl dX6_ticks_1 (fun x1 e1 => ?_)
  refine g_ireturn X E rfl dX6_ticks_4 (by decide) (by decide) ?_
  exact ⟨_, rfl, e1, rfl⟩
set_option maxHeartbeats 4000000 in
set_option maxRecDepth 100000 in
theorem c_X6_guests {Z : gEnv} {ad : gAd} {P : gP} {h : gH} (G : gG Z) (hR : gRep Z ad P h) : gMet Z yX6_guests cX6_guests 1 ((Option.some FieldType.int)) 1 0 0 [.ref (ad 6 0 0)] h (qI h (fun z => z = nI (pnG P))) (qN) := by
  refine g_enter (lv := [(0, .ref (ad 6 0 0))]) G.2 (by decide +kernel) (Nat.le_of_ble_eq_true rfl) rfl (fun Γ X Nt E RM => ?_)
  refine g_aload_n X dX6_guests_0 rfl ?_
  refine gp_geti (j := 5) X hR (⟨rfl, rfl⟩) cl_X6 lk_X6_262 rfl (by decide) rfl rfl dX6_guests_1 (fun x1 e1 => ?_)
  refine g_ireturn X E rfl dX6_guests_4 (by decide) (by decide) ?_
  exact ⟨_, rfl, e1, rfl⟩
set_option maxHeartbeats 4000000 in
set_option maxRecDepth 100000 in
theorem c_X6_till {Z : gEnv} {ad : gAd} {P : gP} {h : gH} (G : gG Z) (hR : gRep Z ad P h) : gMet Z yX6_till cX6_till 1 ((Option.some FieldType.long)) 1 0 0 [.ref (ad 6 0 0)] h (qL h (fun z => z = pJ P 11)) (qN) := by
  refine g_enter (lv := [(0, .ref (ad 6 0 0))]) G.2 (by decide +kernel) (Nat.le_of_ble_eq_true rfl) rfl (fun Γ X Nt E RM => ?_)
  refine g_aload_n X dX6_till_0 rfl ?_
  refine gp_getl (j := 11) X hR (⟨rfl, rfl⟩) cl_X6 lk_X6_310 rfl (by decide) rfl rfl dX6_till_1 (fun x1 e1 => ?_)
  refine g_lreturn X E dX6_till_4 (by decide) (by decide) ?_
  exact ⟨_, rfl, e1, rfl⟩
set_option maxHeartbeats 4000000 in
set_option maxRecDepth 100000 in
theorem c_X6_allMoney {Z : gEnv} {ad : gAd} {P : gP} {h : gH} (G : gG Z) (hR : gRep Z ad P h) : gMet Z yX6_allMoney cX6_allMoney 1 ((Option.some FieldType.long)) 2 0 0 [.ref (ad 6 0 0)] h (qL h (fun z => z = fMI P 60 0 0 + pJ P 11)) (qN) := by
  refine g_enter (lv := [(0, .ref (ad 6 0 0))]) G.2 (by decide +kernel) (Nat.le_of_ble_eq_true rfl) rfl (fun Γ X Nt E RM => ?_)
  refine g_aload_n X dX6_allMoney_0 rfl ?_
  refine gp_V X RM lm_X6_381 (c_X6_moneyOfGuestsInside G hR) cl_X6 hR (show gLive P 6 0 0 from ⟨rfl, rfl⟩) rfl rfl rfl (Nat.le_of_ble_eq_true rfl) (by decide) (by decide) dX6_allMoney_1 (fun v hz q => ?_) (fun _ _ q => q.elim)
  obtain ⟨x1, rfl, e1, rfl⟩ := q
  refine GJ.seq (st' := [.long x1]) rfl ?_
  refine g_aload_n X dX6_allMoney_4 rfl ?_
  refine gp_getl (j := 11) X hR (⟨rfl, rfl⟩) cl_X6 lk_X6_310 rfl (by decide) rfl rfl dX6_allMoney_5 (fun x5 e5 => ?_)
  refine g_ladd X dX6_allMoney_8 (fun x8 e8 => ?_)
  refine g_lreturn X E dX6_allMoney_9 (by decide) (by decide) ?_
  exact ⟨_, rfl, by rw [e8, e1, e5], rfl⟩
set_option maxHeartbeats 4000000 in
set_option maxRecDepth 100000 in
theorem c_X6_close {Z : gEnv} {ad : gAd} {P : gP} {h : gH} (G : gG Z) (hR : gRep Z ad P h) (hW : Wf P) {x : Int32} {r : Nat} (hx : x = nI r) (hr : r < pnR P) : gMet Z yX6_close cX6_close 3 ((Option.some FieldType.int)) 7 1 6 [.ref (ad 6 0 0), .int x] h (qIM (fun _ h2 => ∃ P2, gRep Z ad P2 h2 ∧ P2 = uI P 4 r 0 2 1 ∧ pI P 4 r 0 2 = 0 ∧ 4 ≤ pnB P r ∧ pI P 0 r 0 0 = 115)) (qT h (fun E => E = eREF)) := by
  refine g_enter (lv := [(0, .ref (ad 6 0 0)), (1, .int x)]) G.2 (by decide +kernel) (Nat.le_of_ble_eq_true rfl) rfl (fun Γ X Nt E RM => ?_)
  have hl3 : gLive P 3 r 0 := ⟨hr, rfl⟩
  have hB : pnB P r ≤ 12 := hW.nB hr
  have hT4 : pnT P r ≤ 4 := hW.nT hr
  have hC : gChrs P r := hW.chr hr
  have hcl : ¬ pI P 4 r 0 2 = 0 → 0 < pnB P r := hW.cl hr
  refine g_aload_n X dX6_close_0 rfl ?_
  refine g_iload_n X dX6_close_1 rfl ?_
  refine gp_V X RM lm_X6_48 (c_X6_rideAt G hR hW hx hr) cl_X6 hR (show gLive P 6 0 0 from ⟨rfl, rfl⟩) rfl rfl rfl (Nat.le_of_ble_eq_true rfl) (by decide) (by decide) dX6_close_2 (fun v hz q => ?_) (fun _ _ q => q.elim)
  obtain ⟨w2, rfl, e2, rfl⟩ := q
  rcases e2 with rfl
  · skip
    refine GJ.seq (st' := [.ref (ad 3 r 0)]) rfl ?_
    refine gp_get (j := 3) (v := .ref (ad 4 r 0)) X hR hl3 cl_X3 lk_X6_52 rfl (by decide) rfl rfl dX6_close_5 ?_
    refine g_astore_n (lv' := [(2, .ref (ad 4 r 0)), (0, .ref (ad 6 0 0)), (1, .int x)]) X dX6_close_8 (by decide) rfl ?_
    refine g_aload_n X dX6_close_9 rfl ?_
    refine gp_geti (j := 2) X hR hl3 cl_X4 lk_X6_62 rfl (by decide) rfl rfl dX6_close_10 (fun x10 e10 => ?_)
    refine g_if_ne 23 X dX6_close_13 (by decide) (fun c13 => ?_) (fun c13 => ?_)
    · skip
      refine gp_thr X RM Nt E th_UnsupportedOperationException ls_X6_91 dX6_close_23 dX6_close_26 dX6_close_27 dX6_close_29 dX6_close_32 ⟨Nat.le_of_ble_eq_true rfl, Nat.le_of_ble_eq_true rfl, Nat.le_of_ble_eq_true rfl, Nat.le_of_ble_eq_true rfl, Nat.le_of_ble_eq_true rfl, Nat.le_of_ble_eq_true rfl⟩ ?_
      exact ⟨rfl, rfl⟩
    · skip
      refine g_aload_n X dX6_close_16 rfl ?_
      refine gp_V X RM lm_X6_87 (c_X4_canBeClosed G hR hl3 hB) cl_X4 hR hl3 rfl rfl rfl (Nat.le_of_ble_eq_true rfl) (by decide) (by decide) dX6_close_17 (fun v hz q => ?_) (fun _ _ q => q.elim)
      obtain ⟨x17, rfl, e17, rfl⟩ := q
      refine GJ.seq (st' := [.int x17]) rfl ?_
      refine g_if_ne 33 X dX6_close_20 (by decide) (fun c20 => ?_) (fun c20 => ?_)
      · skip
        refine g_aload_n X dX6_close_33 rfl ?_
        refine g_iconst (v := 1) X dX6_close_34 (by decide) ?_
        refine gp_puti (j := 2) X hR hl3 cl_X4 lk_X6_62 rfl (by decide) rfl (by decide) rfl (by decide) (by decide) dX6_close_35 (fun h hR => ?_)
        refine g_aload_n X dX6_close_38 rfl ?_
        refine gp_V X RM lm_X6_93 (c_X4_countStops G hR hl3 hB) cl_X4 hR hl3 rfl rfl rfl (Nat.le_of_ble_eq_true rfl) (by decide) (by decide) dX6_close_39 (fun v hz q => ?_) (fun _ _ q => q.elim)
        obtain ⟨x39, rfl, e39, rfl⟩ := q
        refine GJ.seq (st' := [.int x39]) rfl ?_
        refine g_ireturn X E rfl dX6_close_42 (by decide) (by decide) ?_
        obtain ⟨w1, w2⟩ := e17
        have w3 := w2 (w1.resolve_left c20)
        exact ⟨_, rfl, _, hR, rfl, by rw [← e10]; exact c13, w3.1, w3.2⟩
      · skip
        refine gp_thr X RM Nt E th_UnsupportedOperationException ls_X6_91 dX6_close_23 dX6_close_26 dX6_close_27 dX6_close_29 dX6_close_32 ⟨Nat.le_of_ble_eq_true rfl, Nat.le_of_ble_eq_true rfl, Nat.le_of_ble_eq_true rfl, Nat.le_of_ble_eq_true rfl, Nat.le_of_ble_eq_true rfl, Nat.le_of_ble_eq_true rfl⟩ ?_
        exact ⟨rfl, rfl⟩
set_option maxHeartbeats 4000000 in
set_option maxRecDepth 100000 in
theorem c_X6_addStaff {Z : gEnv} {ad : gAd} {P : gP} {h : gH} (G : gG Z) (hR : gRep Z ad P h) {a : Int32} (ha : ¬ a < 0 ∧ ¬ 15 < a) {s : Nat} (hs : pI P 6 0 0 3 = nI s) (h8 : s < 8) : gMet Z yX6_addStaff cX6_addStaff 2 ((Option.some FieldType.int)) 2 0 0 [.ref (ad 6 0 0), .int a] h (qIM (fun _ h2 => ∃ P2, gRep Z ad P2 h2 ∧ P2 = uI (uI P 8 0 0 s a) 6 0 0 3 (nI (s + 1)))) (qN) := by
  refine g_enter (lv := [(0, .ref (ad 6 0 0)), (1, .int a)]) G.2 (by decide +kernel) (Nat.le_of_ble_eq_true rfl) rfl (fun Γ X Nt E RM => ?_)
  refine g_iload_n X dX6_addStaff_0 rfl ?_
  refine g_iconst (v := 0) X dX6_addStaff_1 (by decide) ?_
  refine g_bipush (v := 15) X dX6_addStaff_2 (by decide) ?_
  refine gp_S X RM lm_X6_25 (c_X6_isWithin G hR) rfl rfl (Nat.le_of_ble_eq_true rfl) (by decide) (by decide) dX6_addStaff_4 (fun v hz q => ?_) (fun _ _ q => q.elim)
  obtain ⟨x4, rfl, e4, rfl⟩ := q
  refine GJ.seq (st' := [.int x4]) rfl ?_
  refine g_if_ne 20 X dX6_addStaff_7 (by decide) (fun c7 => ?_) (fun c7 => ?_)
  · skip
    refine g_aload_n X dX6_addStaff_20 rfl ?_
    refine gp_geti (j := 3) X hR (⟨rfl, rfl⟩) cl_X6 lk_X6_124 rfl (by decide) rfl rfl dX6_addStaff_21 (fun x21 e21 => ?_)
    refine g_if_lt 39 X dX6_addStaff_24 (by decide) (fun c24 => ?_) (fun c24 => ?_)
    · skip
      exact absurd c24 (by rw [e21, hs]; exact nI_pos (by omega))
    · skip
      refine g_aload_n X dX6_addStaff_27 rfl ?_
      refine gp_geti (j := 3) X hR (⟨rfl, rfl⟩) cl_X6 lk_X6_124 rfl (by decide) rfl rfl dX6_addStaff_28 (fun x28 e28 => ?_)
      refine g_aload_n X dX6_addStaff_31 rfl ?_
      refine gp_get (j := 2) (v := .ref (ad 8 0 0)) X hR (⟨rfl, rfl⟩) cl_X6 lk_X6_15 rfl (by decide) rfl rfl dX6_addStaff_32 ?_
      refine gp_alen (v := 8) X hR (⟨rfl, rfl⟩) G.t1 rfl rfl dX6_addStaff_35 ?_
      refine g_icmp_lt 49 X dX6_addStaff_36 (by decide) (fun c36 => ?_) (fun c36 => ?_)
      · skip
        refine g_aload_n X dX6_addStaff_49 rfl ?_
        refine gp_get (j := 2) (v := .ref (ad 8 0 0)) X hR (⟨rfl, rfl⟩) cl_X6 lk_X6_15 rfl (by decide) rfl rfl dX6_addStaff_50 ?_
        refine g_aload_n X dX6_addStaff_53 rfl ?_
        refine gp_geti (j := 3) X hR (⟨rfl, rfl⟩) cl_X6 lk_X6_124 rfl (by decide) rfl rfl dX6_addStaff_54 (fun x54 e54 => ?_)
        refine g_iload_n X dX6_addStaff_57 rfl ?_
        refine gp_astC (j := s) X G hR (e54.trans hs) h8 dX6_addStaff_58 (fun h hR => ?_)
        refine g_aload_n X dX6_addStaff_59 rfl ?_
        refine g_dup X dX6_addStaff_60 rfl ?_
        refine gp_geti (j := 3) X hR (⟨rfl, rfl⟩) cl_X6 lk_X6_124 rfl (by decide) rfl rfl dX6_addStaff_61 (fun x61 e61 => ?_)
        refine g_iconst (v := 1) X dX6_addStaff_64 (by decide) ?_
        refine g_iadd X dX6_addStaff_65 (fun x65 e65 => ?_)
        refine gp_puti (j := 3) X hR (⟨rfl, rfl⟩) cl_X6 lk_X6_124 rfl (by decide) rfl (by decide) rfl rfl rfl dX6_addStaff_66 (fun h hR => ?_)
        refine g_aload_n X dX6_addStaff_69 rfl ?_
        refine gp_geti (j := 3) X hR (⟨rfl, rfl⟩) cl_X6 lk_X6_124 rfl (by decide) rfl rfl dX6_addStaff_70 (fun x70 e70 => ?_)
        refine g_iconst (v := 1) X dX6_addStaff_73 (by decide) ?_
        refine g_isub X dX6_addStaff_74 (fun x74 e74 => ?_)
        refine g_ireturn X E rfl dX6_addStaff_75 (by decide) (by decide) ?_
        refine ⟨_, rfl, _, hR, ?_⟩
        have hx65 : x65 = nI (s + 1) := by rw [e65, e61, pI_uI, if_neg (fun hh => absurd hh.1 (by decide)), hs]; exact nI_1 s
        rw [hx65]
      · skip
        exact absurd (by rw [e28, hs]; exact nI_lt (b := 8) h8 (by decide)) c36
  · skip
    exact absurd (e4.trans (if_pos ha)) (by rw [c7]; decide)
set_option maxHeartbeats 4000000 in
set_option maxRecDepth 100000 in
theorem c_X6_assign {Z : gEnv} {ad : gAd} {P : gP} {h : gH} (G : gG Z) (hR : gRep Z ad P h) (hW : Wf P) {x : Int32} {r : Nat} (hx : x = nI r) (hr : r < pnR P) {m : Int32} (hm : ¬ m < 0 ∧ m < pI P 6 0 0 3) : gMet Z yX6_assign cX6_assign 5 ((Option.some FieldType.int)) 7 1 6 [.ref (ad 6 0 0), .int x, .int m] h (qIM (fun _ h2 => ∃ P2, gRep Z ad P2 h2 ∧ P2 = uI P 3 r 0 9 m)) (qT h (fun E => E = eREF)) := by
  refine g_enter (lv := [(0, .ref (ad 6 0 0)), (1, .int x), (2, .int m)]) G.2 (by decide +kernel) (Nat.le_of_ble_eq_true rfl) rfl (fun Γ X Nt E RM => ?_)
  have hl3 : gLive P 3 r 0 := ⟨hr, rfl⟩
  have hB : pnB P r ≤ 12 := hW.nB hr
  have hT4 : pnT P r ≤ 4 := hW.nT hr
  have hC : gChrs P r := hW.chr hr
  have hcl : ¬ pI P 4 r 0 2 = 0 → 0 < pnB P r := hW.cl hr
  refine g_aload_n X dX6_assign_0 rfl ?_
  refine g_iload_n X dX6_assign_1 rfl ?_
  refine gp_V X RM lm_X6_48 (c_X6_rideAt G hR hW hx hr) cl_X6 hR (show gLive P 6 0 0 from ⟨rfl, rfl⟩) rfl rfl rfl (Nat.le_of_ble_eq_true rfl) (by decide) (by decide) dX6_assign_2 (fun v hz q => ?_) (fun _ _ q => q.elim)
  obtain ⟨w2, rfl, e2, rfl⟩ := q
  rcases e2 with rfl
  · skip
    refine GJ.seq (st' := [.ref (ad 3 r 0)]) rfl ?_
    refine g_astore_n (lv' := [(3, .ref (ad 3 r 0)), (0, .ref (ad 6 0 0)), (1, .int x), (2, .int m)]) X dX6_assign_5 (by decide) rfl ?_
    refine g_aload_n X dX6_assign_6 rfl ?_
    refine g_iload_n X dX6_assign_7 rfl ?_
    refine gp_V X RM lm_X6_129 (c_X6_checkMember G hR hm) cl_X6 hR (show gLive P 6 0 0 from ⟨rfl, rfl⟩) rfl rfl rfl (Nat.le_of_ble_eq_true rfl) (by decide) (by decide) dX6_assign_8 (fun v hz q => ?_) (fun _ _ q => q.elim)
    obtain ⟨rfl, e8, rfl⟩ := q
    refine GJ.seq (st' := []) rfl ?_
    refine g_aload_n X dX6_assign_11 rfl ?_
    refine g_iload_n X dX6_assign_12 rfl ?_
    refine g_iload_n X dX6_assign_13 rfl ?_
    refine gp_V X RM lm_X6_132 (c_X6_isCertified G hR) cl_X6 hR (show gLive P 6 0 0 from ⟨rfl, rfl⟩) rfl rfl rfl (Nat.le_of_ble_eq_true rfl) (by decide) (by decide) dX6_assign_14 (fun v hz q => ?_) (fun _ _ q => q.elim)
    obtain ⟨x14, rfl, e14, rfl⟩ := q
    refine GJ.seq (st' := [.int x14]) rfl ?_
    refine g_if_eq 29 X dX6_assign_17 (by decide) (fun c17 => ?_) (fun c17 => ?_)
    · skip
      refine gp_thr X RM Nt E th_UnsupportedOperationException ls_X6_140 dX6_assign_29 dX6_assign_32 dX6_assign_33 dX6_assign_35 dX6_assign_38 ⟨Nat.le_of_ble_eq_true rfl, Nat.le_of_ble_eq_true rfl, Nat.le_of_ble_eq_true rfl, Nat.le_of_ble_eq_true rfl, Nat.le_of_ble_eq_true rfl, Nat.le_of_ble_eq_true rfl⟩ ?_
      exact ⟨rfl, rfl⟩
    · skip
      refine g_aload_n X dX6_assign_20 rfl ?_
      refine g_iload_n X dX6_assign_21 rfl ?_
      refine g_aload_n X dX6_assign_22 rfl ?_
      refine gp_V X RM lm_X6_136 (c_X6_operatesAnother G hR hl3) cl_X6 hR (show gLive P 6 0 0 from ⟨rfl, rfl⟩) rfl rfl rfl (Nat.le_of_ble_eq_true rfl) (by decide) (by decide) dX6_assign_23 (fun v hz q => ?_) (fun _ _ q => q.elim)
      obtain ⟨x23, rfl, e23, rfl⟩ := q
      refine GJ.seq (st' := [.int x23]) rfl ?_
      refine g_if_eq 39 X dX6_assign_26 (by decide) (fun c26 => ?_) (fun c26 => ?_)
      · skip
        refine g_aload_n X dX6_assign_39 rfl ?_
        refine gp_geti (j := 9) X hR hl3 cl_X3 lk_X6_142 rfl (by decide) rfl rfl dX6_assign_40 (fun x40 e40 => ?_)
        refine g_istore (lv' := [(4, .int x40), (3, .ref (ad 3 r 0)), (0, .ref (ad 6 0 0)), (1, .int x), (2, .int m)]) X dX6_assign_43 (by decide) rfl ?_
        refine g_aload_n X dX6_assign_45 rfl ?_
        refine g_iload_n X dX6_assign_46 rfl ?_
        refine gp_puti (j := 9) X hR hl3 cl_X3 lk_X6_142 rfl (by decide) rfl (by decide) rfl rfl rfl dX6_assign_47 (fun h hR => ?_)
        refine g_iload X dX6_assign_50 rfl ?_
        refine g_ireturn X E rfl dX6_assign_52 (by decide) (by decide) ?_
        exact ⟨_, rfl, _, hR, rfl⟩
      · skip
        refine gp_thr X RM Nt E th_UnsupportedOperationException ls_X6_140 dX6_assign_29 dX6_assign_32 dX6_assign_33 dX6_assign_35 dX6_assign_38 ⟨Nat.le_of_ble_eq_true rfl, Nat.le_of_ble_eq_true rfl, Nat.le_of_ble_eq_true rfl, Nat.le_of_ble_eq_true rfl, Nat.le_of_ble_eq_true rfl, Nat.le_of_ble_eq_true rfl⟩ ?_
        exact ⟨rfl, rfl⟩
set_option maxHeartbeats 4000000 in
set_option maxRecDepth 100000 in
theorem c_X6_inspect {Z : gEnv} {ad : gAd} {P : gP} {h : gH} (G : gG Z) (hR : gRep Z ad P h) (hW : Wf P) {x : Int32} {r : Nat} (hx : x = nI r) (hr : r < pnR P) {m : Int32} (hm : ¬ m < 0 ∧ m < pI P 6 0 0 3) : gMet Z yX6_inspect cX6_inspect 5 ((Option.some FieldType.int)) 7 1 6 [.ref (ad 6 0 0), .int x, .int m] h (qIM (fun _ h2 => ∃ P2, gRep Z ad P2 h2 ∧ P2 = uI (uI P 3 r 0 10 1) 3 r 0 11 0)) (qT h (fun E => E = eREF)) := by
  refine g_enter (lv := [(0, .ref (ad 6 0 0)), (1, .int x), (2, .int m)]) G.2 (by decide +kernel) (Nat.le_of_ble_eq_true rfl) rfl (fun Γ X Nt E RM => ?_)
  have hl3 : gLive P 3 r 0 := ⟨hr, rfl⟩
  have hB : pnB P r ≤ 12 := hW.nB hr
  have hT4 : pnT P r ≤ 4 := hW.nT hr
  have hC : gChrs P r := hW.chr hr
  have hcl : ¬ pI P 4 r 0 2 = 0 → 0 < pnB P r := hW.cl hr
  refine g_aload_n X dX6_inspect_0 rfl ?_
  refine g_iload_n X dX6_inspect_1 rfl ?_
  refine gp_V X RM lm_X6_48 (c_X6_rideAt G hR hW hx hr) cl_X6 hR (show gLive P 6 0 0 from ⟨rfl, rfl⟩) rfl rfl rfl (Nat.le_of_ble_eq_true rfl) (by decide) (by decide) dX6_inspect_2 (fun v hz q => ?_) (fun _ _ q => q.elim)
  obtain ⟨w2, rfl, e2, rfl⟩ := q
  rcases e2 with rfl
  · skip
    refine GJ.seq (st' := [.ref (ad 3 r 0)]) rfl ?_
    refine g_astore_n (lv' := [(3, .ref (ad 3 r 0)), (0, .ref (ad 6 0 0)), (1, .int x), (2, .int m)]) X dX6_inspect_5 (by decide) rfl ?_
    refine g_aload_n X dX6_inspect_6 rfl ?_
    refine g_iload_n X dX6_inspect_7 rfl ?_
    refine gp_V X RM lm_X6_129 (c_X6_checkMember G hR hm) cl_X6 hR (show gLive P 6 0 0 from ⟨rfl, rfl⟩) rfl rfl rfl (Nat.le_of_ble_eq_true rfl) (by decide) (by decide) dX6_inspect_8 (fun v hz q => ?_) (fun _ _ q => q.elim)
    obtain ⟨rfl, e8, rfl⟩ := q
    refine GJ.seq (st' := []) rfl ?_
    refine g_aload_n X dX6_inspect_11 rfl ?_
    refine g_iload_n X dX6_inspect_12 rfl ?_
    refine g_iload_n X dX6_inspect_13 rfl ?_
    refine gp_V X RM lm_X6_132 (c_X6_isCertified G hR) cl_X6 hR (show gLive P 6 0 0 from ⟨rfl, rfl⟩) rfl rfl rfl (Nat.le_of_ble_eq_true rfl) (by decide) (by decide) dX6_inspect_14 (fun v hz q => ?_) (fun _ _ q => q.elim)
    obtain ⟨x14, rfl, e14, rfl⟩ := q
    refine GJ.seq (st' := [.int x14]) rfl ?_
    refine g_if_ne 30 X dX6_inspect_17 (by decide) (fun c17 => ?_) (fun c17 => ?_)
    · skip
      refine g_aload_n X dX6_inspect_30 rfl ?_
      refine gp_geti (j := 11) X hR hl3 cl_X3 lk_X6_147 rfl (by decide) rfl rfl dX6_inspect_31 (fun x31 e31 => ?_)
      refine g_istore (lv' := [(4, .int x31), (3, .ref (ad 3 r 0)), (0, .ref (ad 6 0 0)), (1, .int x), (2, .int m)]) X dX6_inspect_34 (by decide) rfl ?_
      refine g_aload_n X dX6_inspect_36 rfl ?_
      refine g_iconst (v := 1) X dX6_inspect_37 (by decide) ?_
      refine gp_puti (j := 10) X hR hl3 cl_X3 lk_X6_150 rfl (by decide) rfl (by decide) rfl (by decide) (by decide) dX6_inspect_38 (fun h hR => ?_)
      refine g_aload_n X dX6_inspect_41 rfl ?_
      refine g_iconst (v := 0) X dX6_inspect_42 (by decide) ?_
      refine gp_puti (j := 11) X hR hl3 cl_X3 lk_X6_147 rfl (by decide) rfl (by decide) rfl rfl rfl dX6_inspect_43 (fun h hR => ?_)
      refine g_iload X dX6_inspect_46 rfl ?_
      refine g_ireturn X E rfl dX6_inspect_48 (by decide) (by decide) ?_
      exact ⟨_, rfl, _, hR, rfl⟩
    · skip
      refine gp_thr X RM Nt E th_UnsupportedOperationException ls_X6_145 dX6_inspect_20 dX6_inspect_23 dX6_inspect_24 dX6_inspect_26 dX6_inspect_29 ⟨Nat.le_of_ble_eq_true rfl, Nat.le_of_ble_eq_true rfl, Nat.le_of_ble_eq_true rfl, Nat.le_of_ble_eq_true rfl, Nat.le_of_ble_eq_true rfl, Nat.le_of_ble_eq_true rfl⟩ ?_
      exact ⟨rfl, rfl⟩
set_option maxHeartbeats 4000000 in
set_option maxRecDepth 100000 in
theorem c_X6_setSensor {Z : gEnv} {ad : gAd} {P : gP} {h : gH} (G : gG Z) (hR : gRep Z ad P h) (hW : Wf P) {x : Int32} {r : Nat} (hx : x = nI r) (hr : r < pnR P) {z : Int32} {b : Nat} (hzb : z = nI b) (hb : b < pnB P r) {p w : Int32} (hp : p = 0 ∨ p = 1) (hw : w = 116 ∨ w = 97 ∨ w = 110) : gMet Z yX6_setSensor cX6_setSensor 8 ((Option.some FieldType.char)) 7 0 0 [.ref (ad 6 0 0), .int x, .int z, .int p, .int w] h (qIM (fun _ h2 => ∃ P2, gRep Z ad P2 h2 ∧ (P2 = fSns P r b p w ∨ P2 = uI (fSns P r b p w) 3 r 0 14 1))) (qN) := by
  refine g_enter (lv := [(0, .ref (ad 6 0 0)), (1, .int x), (2, .int z), (3, .int p), (4, .int w)]) G.2 (by decide +kernel) (Nat.le_of_ble_eq_true rfl) rfl (fun Γ X Nt E RM => ?_)
  have hl3 : gLive P 3 r 0 := ⟨hr, rfl⟩
  have hB : pnB P r ≤ 12 := hW.nB hr
  have hT4 : pnT P r ≤ 4 := hW.nT hr
  have hC : gChrs P r := hW.chr hr
  have hcl : ¬ pI P 4 r 0 2 = 0 → 0 < pnB P r := hW.cl hr
  have hwc : gChr w := by rcases hw with e | e | e <;> (rw [e]; exact ⟨by decide, by decide⟩)
  refine g_aload_n X dX6_setSensor_0 rfl ?_
  refine g_iload_n X dX6_setSensor_1 rfl ?_
  refine gp_V X RM lm_X6_48 (c_X6_rideAt G hR hW hx hr) cl_X6 hR (show gLive P 6 0 0 from ⟨rfl, rfl⟩) rfl rfl rfl (Nat.le_of_ble_eq_true rfl) (by decide) (by decide) dX6_setSensor_2 (fun v hz q => ?_) (fun _ _ q => q.elim)
  obtain ⟨w2, rfl, e2, rfl⟩ := q
  rcases e2 with rfl
  · skip
    refine GJ.seq (st' := [.ref (ad 3 r 0)]) rfl ?_
    refine g_astore (lv' := [(5, .ref (ad 3 r 0)), (0, .ref (ad 6 0 0)), (1, .int x), (2, .int z), (3, .int p), (4, .int w)]) X dX6_setSensor_5 (by decide) rfl ?_
    refine g_aload X dX6_setSensor_7 rfl ?_
    refine g_iload_n X dX6_setSensor_9 rfl ?_
    refine gp_S X RM lm_X6_169 (c_X6_blockAt G hR hl3 hB hzb hb) rfl rfl (Nat.le_of_ble_eq_true rfl) (by decide) (by decide) dX6_setSensor_10 (fun v hz q => ?_) (fun _ _ q => q.elim)
    obtain ⟨w10, rfl, e10, rfl⟩ := q
    rcases e10 with rfl
    · skip
      have hlb : gLive P 0 r b := ⟨hr, hb⟩
      refine GJ.seq (st' := [.ref (ad 0 r b)]) rfl ?_
      refine g_astore (lv' := [(6, .ref (ad 0 r b)), (5, .ref (ad 3 r 0)), (0, .ref (ad 6 0 0)), (1, .int x), (2, .int z), (3, .int p), (4, .int w)]) X dX6_setSensor_13 (by decide) rfl ?_
      refine g_iload_n X dX6_setSensor_15 rfl ?_
      refine gp_S X RM lm_X6_173 (c_X6_checkProcessor G hR hp) rfl rfl (Nat.le_of_ble_eq_true rfl) (by decide) (by decide) dX6_setSensor_16 (fun v hz q => ?_) (fun _ _ q => q.elim)
      obtain ⟨rfl, e16, rfl⟩ := q
      refine GJ.seq (st' := []) rfl ?_
      refine g_iload X dX6_setSensor_19 rfl ?_
      refine g_bipush (v := 116) X dX6_setSensor_21 (by decide) ?_
      refine g_icmp_eq 50 X dX6_setSensor_23 (by decide) (fun c23 => ?_) (fun c23 => ?_)
      · skip
        refine g_aload X dX6_setSensor_50 rfl ?_
        refine g_iload_n X dX6_setSensor_52 rfl ?_
        refine gp_V X RM lm_X6_178 (c_X0_sensor G hR hlb (hC b hb)) cl_X0 hR hlb rfl rfl rfl (Nat.le_of_ble_eq_true rfl) (by decide) (by decide) dX6_setSensor_53 (fun v hz q => ?_) (fun _ _ q => q.elim)
        obtain ⟨x53, rfl, e53, rfl⟩ := q
        refine GJ.seq (st' := [.int x53]) rfl ?_
        refine g_istore (lv' := [(7, .int x53), (6, .ref (ad 0 r b)), (5, .ref (ad 3 r 0)), (0, .ref (ad 6 0 0)), (1, .int x), (2, .int z), (3, .int p), (4, .int w)]) X dX6_setSensor_56 (by decide) rfl ?_
        refine g_aload X dX6_setSensor_58 rfl ?_
        refine g_iload_n X dX6_setSensor_60 rfl ?_
        refine g_iload X dX6_setSensor_61 rfl ?_
        refine gp_V X RM lm_X6_182 (c_X0_tellSensor G hR hlb hwc) cl_X0 hR hlb rfl rfl rfl (Nat.le_of_ble_eq_true rfl) (by decide) (by decide) dX6_setSensor_63 (fun v hz q => ?_) (fun _ _ q => q.elim)
        obtain ⟨rfl, P63, hR, e63⟩ := q
        refine GJ.seq (st' := []) rfl ?_
        have e63b : P63 = fSns P r b p w := e63
        subst e63b
        have hl3b : gLive (fSns P r b p w) 3 r 0 := by rw [gLive_2 (fSns_2 _ _ _ _ _)]; exact hl3
        refine g_aload X dX6_setSensor_66 rfl ?_
        refine gp_V X RM lm_X6_119 (c_X3_compareProcessors G hR hl3b (show pnB (fSns P r b p w) r ≤ 12 by rw [show pnB (fSns P r b p w) r = pnB P r from congrArg (fun x => x.2.2.2.2.2.2.1 r) (fSns_2 P r b p w)]; exact hB) (gChrs_sns hC hwc)) cl_X3 hR hl3b rfl rfl rfl (Nat.le_of_ble_eq_true rfl) (by decide) (by decide) dX6_setSensor_68 (fun v hz q => ?_) (fun _ _ q => q.elim)
        obtain ⟨rfl, P68, hR, e68⟩ := q
        refine GJ.seq (st' := []) rfl ?_
        refine g_iload X dX6_setSensor_71 rfl ?_
        refine g_ireturn X E (by rw [e53]; unfold fSens; split <;> first | exact (hC b hb).1.1 | exact (hC b hb).2.1) dX6_setSensor_73 (by decide) (by decide) ?_
        exact ⟨_, rfl, _, hR, e68⟩
      · skip
        refine g_iload X dX6_setSensor_26 rfl ?_
        refine g_bipush (v := 97) X dX6_setSensor_28 (by decide) ?_
        refine g_icmp_eq 50 X dX6_setSensor_30 (by decide) (fun c30 => ?_) (fun c30 => ?_)
        · skip
          refine g_aload X dX6_setSensor_50 rfl ?_
          refine g_iload_n X dX6_setSensor_52 rfl ?_
          refine gp_V X RM lm_X6_178 (c_X0_sensor G hR hlb (hC b hb)) cl_X0 hR hlb rfl rfl rfl (Nat.le_of_ble_eq_true rfl) (by decide) (by decide) dX6_setSensor_53 (fun v hz q => ?_) (fun _ _ q => q.elim)
          obtain ⟨x53, rfl, e53, rfl⟩ := q
          refine GJ.seq (st' := [.int x53]) rfl ?_
          refine g_istore (lv' := [(7, .int x53), (6, .ref (ad 0 r b)), (5, .ref (ad 3 r 0)), (0, .ref (ad 6 0 0)), (1, .int x), (2, .int z), (3, .int p), (4, .int w)]) X dX6_setSensor_56 (by decide) rfl ?_
          refine g_aload X dX6_setSensor_58 rfl ?_
          refine g_iload_n X dX6_setSensor_60 rfl ?_
          refine g_iload X dX6_setSensor_61 rfl ?_
          refine gp_V X RM lm_X6_182 (c_X0_tellSensor G hR hlb hwc) cl_X0 hR hlb rfl rfl rfl (Nat.le_of_ble_eq_true rfl) (by decide) (by decide) dX6_setSensor_63 (fun v hz q => ?_) (fun _ _ q => q.elim)
          obtain ⟨rfl, P63, hR, e63⟩ := q
          refine GJ.seq (st' := []) rfl ?_
          have e63b : P63 = fSns P r b p w := e63
          subst e63b
          have hl3b : gLive (fSns P r b p w) 3 r 0 := by rw [gLive_2 (fSns_2 _ _ _ _ _)]; exact hl3
          refine g_aload X dX6_setSensor_66 rfl ?_
          refine gp_V X RM lm_X6_119 (c_X3_compareProcessors G hR hl3b (show pnB (fSns P r b p w) r ≤ 12 by rw [show pnB (fSns P r b p w) r = pnB P r from congrArg (fun x => x.2.2.2.2.2.2.1 r) (fSns_2 P r b p w)]; exact hB) (gChrs_sns hC hwc)) cl_X3 hR hl3b rfl rfl rfl (Nat.le_of_ble_eq_true rfl) (by decide) (by decide) dX6_setSensor_68 (fun v hz q => ?_) (fun _ _ q => q.elim)
          obtain ⟨rfl, P68, hR, e68⟩ := q
          refine GJ.seq (st' := []) rfl ?_
          refine g_iload X dX6_setSensor_71 rfl ?_
          refine g_ireturn X E (by rw [e53]; unfold fSens; split <;> first | exact (hC b hb).1.1 | exact (hC b hb).2.1) dX6_setSensor_73 (by decide) (by decide) ?_
          exact ⟨_, rfl, _, hR, e68⟩
        · skip
          refine g_iload X dX6_setSensor_33 rfl ?_
          refine g_bipush (v := 110) X dX6_setSensor_35 (by decide) ?_
          refine g_icmp_eq 50 X dX6_setSensor_37 (by decide) (fun c37 => ?_) (fun c37 => ?_)
          · skip
            refine g_aload X dX6_setSensor_50 rfl ?_
            refine g_iload_n X dX6_setSensor_52 rfl ?_
            refine gp_V X RM lm_X6_178 (c_X0_sensor G hR hlb (hC b hb)) cl_X0 hR hlb rfl rfl rfl (Nat.le_of_ble_eq_true rfl) (by decide) (by decide) dX6_setSensor_53 (fun v hz q => ?_) (fun _ _ q => q.elim)
            obtain ⟨x53, rfl, e53, rfl⟩ := q
            refine GJ.seq (st' := [.int x53]) rfl ?_
            refine g_istore (lv' := [(7, .int x53), (6, .ref (ad 0 r b)), (5, .ref (ad 3 r 0)), (0, .ref (ad 6 0 0)), (1, .int x), (2, .int z), (3, .int p), (4, .int w)]) X dX6_setSensor_56 (by decide) rfl ?_
            refine g_aload X dX6_setSensor_58 rfl ?_
            refine g_iload_n X dX6_setSensor_60 rfl ?_
            refine g_iload X dX6_setSensor_61 rfl ?_
            refine gp_V X RM lm_X6_182 (c_X0_tellSensor G hR hlb hwc) cl_X0 hR hlb rfl rfl rfl (Nat.le_of_ble_eq_true rfl) (by decide) (by decide) dX6_setSensor_63 (fun v hz q => ?_) (fun _ _ q => q.elim)
            obtain ⟨rfl, P63, hR, e63⟩ := q
            refine GJ.seq (st' := []) rfl ?_
            have e63b : P63 = fSns P r b p w := e63
            subst e63b
            have hl3b : gLive (fSns P r b p w) 3 r 0 := by rw [gLive_2 (fSns_2 _ _ _ _ _)]; exact hl3
            refine g_aload X dX6_setSensor_66 rfl ?_
            refine gp_V X RM lm_X6_119 (c_X3_compareProcessors G hR hl3b (show pnB (fSns P r b p w) r ≤ 12 by rw [show pnB (fSns P r b p w) r = pnB P r from congrArg (fun x => x.2.2.2.2.2.2.1 r) (fSns_2 P r b p w)]; exact hB) (gChrs_sns hC hwc)) cl_X3 hR hl3b rfl rfl rfl (Nat.le_of_ble_eq_true rfl) (by decide) (by decide) dX6_setSensor_68 (fun v hz q => ?_) (fun _ _ q => q.elim)
            obtain ⟨rfl, P68, hR, e68⟩ := q
            refine GJ.seq (st' := []) rfl ?_
            refine g_iload X dX6_setSensor_71 rfl ?_
            refine g_ireturn X E (by rw [e53]; unfold fSens; split <;> first | exact (hC b hb).1.1 | exact (hC b hb).2.1) dX6_setSensor_73 (by decide) (by decide) ?_
            exact ⟨_, rfl, _, hR, e68⟩
          · skip
            exfalso
            simp_all
set_option maxHeartbeats 4000000 in
set_option maxRecDepth 100000 in
theorem c_X6_reset {Z : gEnv} {ad : gAd} {P : gP} {h : gH} (G : gG Z) (hR : gRep Z ad P h) (hW : Wf P) {x : Int32} {r : Nat} (hx : x = nI r) (hr : r < pnR P) : gMet Z yX6_reset cX6_reset 3 ((Option.some FieldType.int)) 7 1 6 [.ref (ad 6 0 0), .int x] h (qIM (fun _ h2 => ∃ P2, gRep Z ad P2 h2 ∧ P2 = uI P 3 r 0 14 0)) (qT h (fun E => E = eREF)) := by
  refine g_enter (lv := [(0, .ref (ad 6 0 0)), (1, .int x)]) G.2 (by decide +kernel) (Nat.le_of_ble_eq_true rfl) rfl (fun Γ X Nt E RM => ?_)
  have hl3 : gLive P 3 r 0 := ⟨hr, rfl⟩
  have hB : pnB P r ≤ 12 := hW.nB hr
  have hT4 : pnT P r ≤ 4 := hW.nT hr
  have hC : gChrs P r := hW.chr hr
  have hcl : ¬ pI P 4 r 0 2 = 0 → 0 < pnB P r := hW.cl hr
  refine g_aload_n X dX6_reset_0 rfl ?_
  refine g_iload_n X dX6_reset_1 rfl ?_
  refine gp_V X RM lm_X6_48 (c_X6_rideAt G hR hW hx hr) cl_X6 hR (show gLive P 6 0 0 from ⟨rfl, rfl⟩) rfl rfl rfl (Nat.le_of_ble_eq_true rfl) (by decide) (by decide) dX6_reset_2 (fun v hz q => ?_) (fun _ _ q => q.elim)
  obtain ⟨w2, rfl, e2, rfl⟩ := q
  rcases e2 with rfl
  · skip
    refine GJ.seq (st' := [.ref (ad 3 r 0)]) rfl ?_
    refine g_astore_n (lv' := [(2, .ref (ad 3 r 0)), (0, .ref (ad 6 0 0)), (1, .int x)]) X dX6_reset_5 (by decide) rfl ?_
    refine g_aload_n X dX6_reset_6 rfl ?_
    refine gp_geti (j := 14) X hR hl3 cl_X3 lk_X6_186 rfl (by decide) rfl rfl dX6_reset_7 (fun x7 e7 => ?_)
    refine g_if_eq 27 X dX6_reset_10 (by decide) (fun c10 => ?_) (fun c10 => ?_)
    · skip
      refine gp_thr X RM Nt E th_UnsupportedOperationException ls_X6_195 dX6_reset_27 dX6_reset_30 dX6_reset_31 dX6_reset_33 dX6_reset_36 ⟨Nat.le_of_ble_eq_true rfl, Nat.le_of_ble_eq_true rfl, Nat.le_of_ble_eq_true rfl, Nat.le_of_ble_eq_true rfl, Nat.le_of_ble_eq_true rfl, Nat.le_of_ble_eq_true rfl⟩ ?_
      exact ⟨rfl, rfl⟩
    · skip
      refine g_aload_n X dX6_reset_13 rfl ?_
      refine gp_V X RM lm_X6_189 (c_X3_processorsDiffer G hR hl3 hB hC) cl_X3 hR hl3 rfl rfl rfl (Nat.le_of_ble_eq_true rfl) (by decide) (by decide) dX6_reset_14 (fun v hz q => ?_) (fun _ _ q => q.elim)
      obtain ⟨x14, rfl, e14, rfl⟩ := q
      refine GJ.seq (st' := [.int x14]) rfl ?_
      refine g_if_ne 27 X dX6_reset_17 (by decide) (fun c17 => ?_) (fun c17 => ?_)
      · skip
        refine gp_thr X RM Nt E th_UnsupportedOperationException ls_X6_195 dX6_reset_27 dX6_reset_30 dX6_reset_31 dX6_reset_33 dX6_reset_36 ⟨Nat.le_of_ble_eq_true rfl, Nat.le_of_ble_eq_true rfl, Nat.le_of_ble_eq_true rfl, Nat.le_of_ble_eq_true rfl, Nat.le_of_ble_eq_true rfl, Nat.le_of_ble_eq_true rfl⟩ ?_
        exact ⟨rfl, rfl⟩
      · skip
        refine g_aload_n X dX6_reset_20 rfl ?_
        refine gp_V X RM lm_X6_192 (c_X3_hasStalledTrain G hR hl3) cl_X3 hR hl3 rfl rfl rfl (Nat.le_of_ble_eq_true rfl) (by decide) (by decide) dX6_reset_21 (fun v hz q => ?_) (fun _ _ q => q.elim)
        obtain ⟨x21, rfl, e21, rfl⟩ := q
        refine GJ.seq (st' := [.int x21]) rfl ?_
        refine g_if_eq 37 X dX6_reset_24 (by decide) (fun c24 => ?_) (fun c24 => ?_)
        · skip
          refine g_aload_n X dX6_reset_37 rfl ?_
          refine g_iconst (v := 0) X dX6_reset_38 (by decide) ?_
          refine gp_puti (j := 14) X hR hl3 cl_X3 lk_X6_186 rfl (by decide) rfl (by decide) rfl (by decide) (by decide) dX6_reset_39 (fun h hR => ?_)
          refine g_aload_n X dX6_reset_42 rfl ?_
          refine gp_geti (j := 5) X hR hl3 cl_X3 lk_X6_105 rfl (by decide) rfl rfl dX6_reset_43 (fun x43 e43 => ?_)
          refine g_ireturn X E rfl dX6_reset_46 (by decide) (by decide) ?_
          exact ⟨_, rfl, _, hR, rfl⟩
        · skip
          refine gp_thr X RM Nt E th_UnsupportedOperationException ls_X6_195 dX6_reset_27 dX6_reset_30 dX6_reset_31 dX6_reset_33 dX6_reset_36 ⟨Nat.le_of_ble_eq_true rfl, Nat.le_of_ble_eq_true rfl, Nat.le_of_ble_eq_true rfl, Nat.le_of_ble_eq_true rfl, Nat.le_of_ble_eq_true rfl, Nat.le_of_ble_eq_true rfl⟩ ?_
          exact ⟨rfl, rfl⟩
set_option maxHeartbeats 4000000 in
set_option maxRecDepth 100000 in
theorem c_X6_setWind {Z : gEnv} {ad : gAd} {P : gP} {h : gH} (G : gG Z) (hR : gRep Z ad P h) {a : Int32} (ha : ¬ a < 0 ∧ ¬ 40 < a) : gMet Z yX6_setWind cX6_setWind 3 ((Option.some FieldType.int)) 2 0 0 [.ref (ad 6 0 0), .int a] h (qIM (fun _ h2 => ∃ P2, gRep Z ad P2 h2 ∧ P2 = uI P 6 0 0 6 a)) (qN) := by
  refine g_enter (lv := [(0, .ref (ad 6 0 0)), (1, .int a)]) G.2 (by decide +kernel) (Nat.le_of_ble_eq_true rfl) rfl (fun Γ X Nt E RM => ?_)
  refine g_iload_n X dX6_setWind_0 rfl ?_
  refine g_iconst (v := 0) X dX6_setWind_1 (by decide) ?_
  refine g_bipush (v := 40) X dX6_setWind_2 (by decide) ?_
  refine gp_S X RM lm_X6_25 (c_X6_isWithin G hR) rfl rfl (Nat.le_of_ble_eq_true rfl) (by decide) (by decide) dX6_setWind_4 (fun v hz q => ?_) (fun _ _ q => q.elim)
  obtain ⟨x4, rfl, e4, rfl⟩ := q
  refine GJ.seq (st' := [.int x4]) rfl ?_
  refine g_if_ne 20 X dX6_setWind_7 (by decide) (fun c7 => ?_) (fun c7 => ?_)
  · skip
    refine g_aload_n X dX6_setWind_20 rfl ?_
    refine gp_geti (j := 6) X hR (⟨rfl, rfl⟩) cl_X6 lk_X6_199 rfl (by decide) rfl rfl dX6_setWind_21 (fun x21 e21 => ?_)
    refine g_istore_n (lv' := [(2, .int x21), (0, .ref (ad 6 0 0)), (1, .int a)]) X dX6_setWind_24 (by decide) rfl ?_
    refine g_aload_n X dX6_setWind_25 rfl ?_
    refine g_iload_n X dX6_setWind_26 rfl ?_
    refine gp_puti (j := 6) X hR (⟨rfl, rfl⟩) cl_X6 lk_X6_199 rfl (by decide) rfl (by decide) rfl rfl rfl dX6_setWind_27 (fun h hR => ?_)
    refine g_iload_n X dX6_setWind_30 rfl ?_
    refine g_ireturn X E rfl dX6_setWind_31 (by decide) (by decide) ?_
    exact ⟨_, rfl, _, hR, rfl⟩
  · skip
    exact absurd (e4.trans (if_pos ha)) (by rw [c7]; decide)
set_option maxHeartbeats 4000000 in
set_option maxRecDepth 100000 in
theorem c_X6_strike {Z : gEnv} {ad : gAd} {P : gP} {h : gH} (G : gG Z) (hR : gRep Z ad P h) {a : Int32} (ha : ¬ a < 0 ∧ ¬ 99 < a) : gMet Z yX6_strike cX6_strike 2 ((Option.some FieldType.boolean)) 2 0 0 [.ref (ad 6 0 0), .int a] h (qIM (fun _ h2 => ∃ P2, gRep Z ad P2 h2 ∧ (P2 = P ∨ P2 = uI (uI P 6 0 0 8 1) 6 0 0 9 (pI P 6 0 0 7)))) (qN) := by
  refine g_enter (lv := [(0, .ref (ad 6 0 0)), (1, .int a)]) G.2 (by decide +kernel) (Nat.le_of_ble_eq_true rfl) rfl (fun Γ X Nt E RM => ?_)
  refine g_iload_n X dX6_strike_0 rfl ?_
  refine g_iconst (v := 0) X dX6_strike_1 (by decide) ?_
  refine g_bipush (v := 99) X dX6_strike_2 (by decide) ?_
  refine gp_S X RM lm_X6_25 (c_X6_isWithin G hR) rfl rfl (Nat.le_of_ble_eq_true rfl) (by decide) (by decide) dX6_strike_4 (fun v hz q => ?_) (fun _ _ q => q.elim)
  obtain ⟨x4, rfl, e4, rfl⟩ := q
  refine GJ.seq (st' := [.int x4]) rfl ?_
  refine g_if_ne 20 X dX6_strike_7 (by decide) (fun c7 => ?_) (fun c7 => ?_)
  · skip
    refine g_iload_n X dX6_strike_20 rfl ?_
    refine g_bipush (v := 10) X dX6_strike_21 (by decide) ?_
    refine g_icmp_lt 28 X dX6_strike_23 (by decide) (fun c23 => ?_) (fun c23 => ?_)
    · skip
      refine g_aload_n X dX6_strike_28 rfl ?_
      refine g_iconst (v := 1) X dX6_strike_29 (by decide) ?_
      refine gp_puti (j := 8) X hR (⟨rfl, rfl⟩) cl_X6 lk_X6_204 rfl (by decide) rfl (by decide) rfl (by decide) (by decide) dX6_strike_30 (fun h hR => ?_)
      refine g_aload_n X dX6_strike_33 rfl ?_
      refine g_aload_n X dX6_strike_34 rfl ?_
      refine gp_geti (j := 7) X hR (⟨rfl, rfl⟩) cl_X6 lk_X6_207 rfl (by decide) rfl rfl dX6_strike_35 (fun x35 e35 => ?_)
      refine gp_puti (j := 9) X hR (⟨rfl, rfl⟩) cl_X6 lk_X6_210 rfl (by decide) rfl (by decide) rfl rfl rfl dX6_strike_38 (fun h hR => ?_)
      refine g_iconst (v := 1) X dX6_strike_41 (by decide) ?_
      refine g_ireturn X E (by decide) dX6_strike_42 (by decide) (by decide) ?_
      refine ⟨_, rfl, _, hR, Or.inr ?_⟩
      rw [e35]
      rfl
    · skip
      refine g_iconst (v := 0) X dX6_strike_26 (by decide) ?_
      refine g_ireturn X E (by decide) dX6_strike_27 (by decide) (by decide) ?_
      exact ⟨_, rfl, _, hR, Or.inl rfl⟩
  · skip
    exact absurd (e4.trans (if_pos ha)) (by rw [c7]; decide)
set_option maxHeartbeats 4000000 in
set_option maxRecDepth 100000 in
theorem c_X6_dispatch_no {Z : gEnv} {ad : gAd} {P : gP} {h : gH} (G : gG Z) (hR : gRep Z ad P h) (hW : Wf P) {x : Int32} {r : Nat} (hx : x = nI r) (hr : r < pnR P) (hk : ¬ fKp P r = 46) : gMet Z yX6_dispatch cX6_dispatch 4 ((Option.some FieldType.int)) 7 1 6 [.ref (ad 6 0 0), .int x] h (fun _ _ => False) (qT h (fun E => E = eREF)) := by
  refine g_enter (lv := [(0, .ref (ad 6 0 0)), (1, .int x)]) G.2 (by decide +kernel) (Nat.le_of_ble_eq_true rfl) rfl (fun Γ X Nt E RM => ?_)
  have hl3 : gLive P 3 r 0 := ⟨hr, rfl⟩
  have hB : pnB P r ≤ 12 := hW.nB hr
  have hT4 : pnT P r ≤ 4 := hW.nT hr
  have hC : gChrs P r := hW.chr hr
  have hcl : ¬ pI P 4 r 0 2 = 0 → 0 < pnB P r := hW.cl hr
  refine g_aload_n X dX6_dispatch_0 rfl ?_
  refine g_iload_n X dX6_dispatch_1 rfl ?_
  refine gp_V X RM lm_X6_48 (c_X6_rideAt G hR hW hx hr) cl_X6 hR (show gLive P 6 0 0 from ⟨rfl, rfl⟩) rfl rfl rfl (Nat.le_of_ble_eq_true rfl) (by decide) (by decide) dX6_dispatch_2 (fun v hz q => ?_) (fun _ _ q => q.elim)
  obtain ⟨w2, rfl, e2, rfl⟩ := q
  rcases e2 with rfl
  · skip
    refine GJ.seq (st' := [.ref (ad 3 r 0)]) rfl ?_
    refine g_astore_n (lv' := [(2, .ref (ad 3 r 0)), (0, .ref (ad 6 0 0)), (1, .int x)]) X dX6_dispatch_5 (by decide) rfl ?_
    refine g_aload_n X dX6_dispatch_6 rfl ?_
    refine gp_V X RM lm_X6_213 (c_X3_trainInStation G hR hl3) cl_X3 hR hl3 rfl rfl rfl (Nat.le_of_ble_eq_true rfl) (by decide) (by decide) dX6_dispatch_7 (fun v hz q => ?_) (fun _ _ q => q.elim)
    obtain ⟨w7, rfl, e7, rfl⟩ := q
    rcases hf7 : fSt P r with _ | i7
    · skip
      rw [hf7] at e7
      subst e7
      refine GJ.seq (st' := [.null]) rfl ?_
      refine g_astore_nN (lv' := [(3, .null), (2, .ref (ad 3 r 0)), (0, .ref (ad 6 0 0)), (1, .int x)]) X dX6_dispatch_10 (by decide) rfl ?_
      refine g_aload_nN X dX6_dispatch_11 rfl ?_
      refine g_ifnullN 32 X dX6_dispatch_12 (by decide) ?_
      refine gp_thr X RM Nt E th_UnsupportedOperationException ls_X6_224 dX6_dispatch_32 dX6_dispatch_35 dX6_dispatch_36 dX6_dispatch_38 dX6_dispatch_41 ⟨Nat.le_of_ble_eq_true rfl, Nat.le_of_ble_eq_true rfl, Nat.le_of_ble_eq_true rfl, Nat.le_of_ble_eq_true rfl, Nat.le_of_ble_eq_true rfl, Nat.le_of_ble_eq_true rfl⟩ ?_
      exact ⟨rfl, rfl⟩
    · skip
      rw [hf7] at e7
      subst e7
      have hl7 : gLive P 5 r i7 := ⟨(hl3).1, (fSt_some hf7).1⟩
      refine GJ.seq (st' := [.ref (ad 5 r i7)]) rfl ?_
      refine g_astore_n (lv' := [(3, .ref (ad 5 r i7)), (2, .ref (ad 3 r 0)), (0, .ref (ad 6 0 0)), (1, .int x)]) X dX6_dispatch_10 (by decide) rfl ?_
      refine g_aload_n X dX6_dispatch_11 rfl ?_
      refine g_ifnull X dX6_dispatch_12 ?_
      refine g_aload_n X dX6_dispatch_15 rfl ?_
      refine g_aload_n X dX6_dispatch_16 rfl ?_
      refine gp_geti (j := 6) X hR (⟨rfl, rfl⟩) cl_X6 lk_X6_199 rfl (by decide) rfl rfl dX6_dispatch_17 (fun x17 e17 => ?_)
      refine g_aload_n X dX6_dispatch_20 rfl ?_
      refine gp_V X RM lm_X6_217 (c_X6_isLightningNear G hR) cl_X6 hR (show gLive P 6 0 0 from ⟨rfl, rfl⟩) rfl rfl rfl (Nat.le_of_ble_eq_true rfl) (by decide) (by decide) dX6_dispatch_21 (fun v hz q => ?_) (fun _ _ q => q.elim)
      obtain ⟨x21, rfl, e21, rfl⟩ := q
      refine GJ.seq (st' := [.int x21, .int x17, .ref (ad 3 r 0)]) rfl ?_
      refine gp_V X RM lm_X6_220 (c_X3_whatKeepsInStation G hR hl3 hB hC hcl) cl_X3 hR hl3 rfl rfl rfl (Nat.le_of_ble_eq_true rfl) (by decide) (by decide) dX6_dispatch_24 (fun v hz q => ?_) (fun _ _ q => q.elim)
      obtain ⟨x24, rfl, e24, rfl⟩ := q
      refine GJ.seq (st' := [.int x24]) rfl ?_
      refine g_bipush (v := 46) X dX6_dispatch_27 (by decide) ?_
      refine g_icmp_eq 42 X dX6_dispatch_29 (by decide) (fun c29 => ?_) (fun c29 => ?_)
      · skip
        exact absurd (show fKp P r = 46 by unfold fKp; rw [← e17, ← e21, ← e24]; exact c29) hk
      · skip
        refine gp_thr X RM Nt E th_UnsupportedOperationException ls_X6_224 dX6_dispatch_32 dX6_dispatch_35 dX6_dispatch_36 dX6_dispatch_38 dX6_dispatch_41 ⟨Nat.le_of_ble_eq_true rfl, Nat.le_of_ble_eq_true rfl, Nat.le_of_ble_eq_true rfl, Nat.le_of_ble_eq_true rfl, Nat.le_of_ble_eq_true rfl, Nat.le_of_ble_eq_true rfl⟩ ?_
        exact ⟨rfl, rfl⟩
set_option maxHeartbeats 4000000 in
set_option maxRecDepth 100000 in
theorem c_X6_dispatch {Z : gEnv} {ad : gAd} {P : gP} {h : gH} (G : gG Z) (hR : gRep Z ad P h) (hW : Wf P) {x : Int32} {r : Nat} (hx : x = nI r) (hr : r < pnR P) {i : Nat} (hi : fSt P r = some i) (hk : fKp P r = 46) {NG : Nat} (J : gP → Prop) (hJ : ∀ P, J P → bdPre P r i NG) (hst : bdStep J r i) (hj : J (fSend P r i 0)) : gMet Z yX6_dispatch cX6_dispatch 4 ((Option.some FieldType.int)) 7 0 0 [.ref (ad 6 0 0), .int x] h (qIM (fun x h2 => ∃ P2, gRep Z ad P2 h2 ∧ J P2 ∧ x = pI P2 5 r i 2 - pI (fSend P r i 0) 5 r i 2)) (qN) := by
  refine g_enter (lv := [(0, .ref (ad 6 0 0)), (1, .int x)]) G.2 (by decide +kernel) (Nat.le_of_ble_eq_true rfl) rfl (fun Γ X Nt E RM => ?_)
  have hl3 : gLive P 3 r 0 := ⟨hr, rfl⟩
  have hB : pnB P r ≤ 12 := hW.nB hr
  have hT4 : pnT P r ≤ 4 := hW.nT hr
  have hC : gChrs P r := hW.chr hr
  have hcl : ¬ pI P 4 r 0 2 = 0 → 0 < pnB P r := hW.cl hr
  refine g_aload_n X dX6_dispatch_0 rfl ?_
  refine g_iload_n X dX6_dispatch_1 rfl ?_
  refine gp_V X RM lm_X6_48 (c_X6_rideAt G hR hW hx hr) cl_X6 hR (show gLive P 6 0 0 from ⟨rfl, rfl⟩) rfl rfl rfl (Nat.le_of_ble_eq_true rfl) (by decide) (by decide) dX6_dispatch_2 (fun v hz q => ?_) (fun _ _ q => q.elim)
  obtain ⟨w2, rfl, e2, rfl⟩ := q
  rcases e2 with rfl
  · skip
    refine GJ.seq (st' := [.ref (ad 3 r 0)]) rfl ?_
    refine g_astore_n (lv' := [(2, .ref (ad 3 r 0)), (0, .ref (ad 6 0 0)), (1, .int x)]) X dX6_dispatch_5 (by decide) rfl ?_
    refine g_aload_n X dX6_dispatch_6 rfl ?_
    refine gp_V X RM lm_X6_213 (c_X3_trainInStation G hR hl3) cl_X3 hR hl3 rfl rfl rfl (Nat.le_of_ble_eq_true rfl) (by decide) (by decide) dX6_dispatch_7 (fun v hz q => ?_) (fun _ _ q => q.elim)
    obtain ⟨w7, rfl, e7, rfl⟩ := q
    rcases hf7 : fSt P r with _ | i7
    · skip
      rw [hf7] at e7
      subst e7
      refine GJ.seq (st' := [.null]) rfl ?_
      refine g_astore_nN (lv' := [(3, .null), (2, .ref (ad 3 r 0)), (0, .ref (ad 6 0 0)), (1, .int x)]) X dX6_dispatch_10 (by decide) rfl ?_
      refine g_aload_nN X dX6_dispatch_11 rfl ?_
      refine g_ifnullN 32 X dX6_dispatch_12 (by decide) ?_
      exact absurd (hf7.symm.trans hi) (by simp)
    · skip
      rw [hf7] at e7
      subst e7
      have hl7 : gLive P 5 r i7 := ⟨(hl3).1, (fSt_some hf7).1⟩
      refine GJ.seq (st' := [.ref (ad 5 r i7)]) rfl ?_
      refine g_astore_n (lv' := [(3, .ref (ad 5 r i7)), (2, .ref (ad 3 r 0)), (0, .ref (ad 6 0 0)), (1, .int x)]) X dX6_dispatch_10 (by decide) rfl ?_
      refine g_aload_n X dX6_dispatch_11 rfl ?_
      refine g_ifnull X dX6_dispatch_12 ?_
      refine g_aload_n X dX6_dispatch_15 rfl ?_
      refine g_aload_n X dX6_dispatch_16 rfl ?_
      refine gp_geti (j := 6) X hR (⟨rfl, rfl⟩) cl_X6 lk_X6_199 rfl (by decide) rfl rfl dX6_dispatch_17 (fun x17 e17 => ?_)
      refine g_aload_n X dX6_dispatch_20 rfl ?_
      refine gp_V X RM lm_X6_217 (c_X6_isLightningNear G hR) cl_X6 hR (show gLive P 6 0 0 from ⟨rfl, rfl⟩) rfl rfl rfl (Nat.le_of_ble_eq_true rfl) (by decide) (by decide) dX6_dispatch_21 (fun v hz q => ?_) (fun _ _ q => q.elim)
      obtain ⟨x21, rfl, e21, rfl⟩ := q
      refine GJ.seq (st' := [.int x21, .int x17, .ref (ad 3 r 0)]) rfl ?_
      refine gp_V X RM lm_X6_220 (c_X3_whatKeepsInStation G hR hl3 hB hC hcl) cl_X3 hR hl3 rfl rfl rfl (Nat.le_of_ble_eq_true rfl) (by decide) (by decide) dX6_dispatch_24 (fun v hz q => ?_) (fun _ _ q => q.elim)
      obtain ⟨x24, rfl, e24, rfl⟩ := q
      refine GJ.seq (st' := [.int x24]) rfl ?_
      refine g_bipush (v := 46) X dX6_dispatch_27 (by decide) ?_
      refine g_icmp_eq 42 X dX6_dispatch_29 (by decide) (fun c29 => ?_) (fun c29 => ?_)
      · skip
        refine g_aload_n X dX6_dispatch_42 rfl ?_
        refine g_aload_n X dX6_dispatch_43 rfl ?_
        have hii : i7 = i := Option.some.inj (hf7.symm.trans hi)
        subst hii
        have hb0 : 0 < pnB P r := hcl (fun e => by unfold fKp fKSt at hk; rw [if_pos e] at hk; exact absurd hk (by decide))
        refine gp_V X RM lm_X6_226 (c_X3_sendOff G hR hl3 hB (fSt_some hf7).1 (show pI P 5 r i7 3 = nI 0 from (fSt_some hf7).2.1) hb0) cl_X3 hR hl3 rfl rfl rfl (Nat.le_of_ble_eq_true rfl) (by decide) (by decide) dX6_dispatch_44 (fun v hz q => ?_) (fun _ _ q => q.elim)
        obtain ⟨rfl, P44, hR, e44⟩ := q
        refine GJ.seq (st' := []) rfl ?_
        have hlS : gLive P44 3 r 0 := by rw [e44]; show gLive (uI _ 3 r 0 11 _) 3 r 0; rw [gLive_uI, gLive_uI, gLive_2 fGo_2]; exact hl3
        have hlS5 : gLive P44 5 r i7 := by rw [e44]; show gLive (uI _ 3 r 0 11 _) 5 r i7; rw [gLive_uI, gLive_uI, gLive_2 fGo_2]; exact hl7
        refine g_aload_n X dX6_dispatch_47 rfl ?_
        refine g_aload_n X dX6_dispatch_48 rfl ?_
        refine gp_V X RM lm_X6_230 (c_X3_board G hR J hJ hst (by rw [e44]; exact hj)) cl_X3 hR hlS rfl rfl rfl (Nat.le_of_ble_eq_true rfl) (by decide) (by decide) dX6_dispatch_49 (fun v hz q => ?_) (fun _ _ q => q.elim)
        obtain ⟨x49, rfl, P49, hR, e49⟩ := q
        refine GJ.seq (st' := [.int x49]) rfl ?_
        refine g_ireturn X E rfl dX6_dispatch_52 (by decide) (by decide) ?_
        exact ⟨_, rfl, P49, hR, e49.1, by rw [e49.2, e44]⟩
      · skip
        exact absurd (show x24 = 46 by rw [e24, e17, e21]; exact hk) c29
set_option maxHeartbeats 4000000 in
set_option maxRecDepth 100000 in
theorem c_X6_push {Z : gEnv} {ad : gAd} {P : gP} {h : gH} (G : gG Z) (hR : gRep Z ad P h) (hW : Wf P) {x : Int32} {r : Nat} (hx : x = nI r) (hr : r < pnR P) {z : Int32} {i : Nat} (hzi : z = nI i) (hi : i < pnT P r) {b : Nat} (hb : pI P 5 r i 3 = nI b) (hbn : b < pnB P r) {l : List Nat} (hT : Tr P r i l) : gMet Z yX6_push cX6_push 5 ((Option.some FieldType.int)) 8 2 12 [.ref (ad 6 0 0), .int x, .int z] h (qIM (fun y h2 => pI P 5 r i 5 = 120 ∧ ∃ P2, gRep Z ad P2 h2 ∧ (P2 = fStand P r i l (nI (fNS P r (pnB P r) (fNx (pnB P r) b))) ∨ P2 = uI (fStand P r i l (nI (fNS P r (pnB P r) (fNx (pnB P r) b)))) 3 r 0 14 1) ∧ y = pI P2 5 r i 3)) (qT h (fun E => E = eREF ∧ ¬ pI P 5 r i 5 = 120)) := by
  refine g_enter (lv := [(0, .ref (ad 6 0 0)), (1, .int x), (2, .int z)]) G.2 (by decide +kernel) (Nat.le_of_ble_eq_true rfl) rfl (fun Γ X Nt E RM => ?_)
  have hl3 : gLive P 3 r 0 := ⟨hr, rfl⟩
  have hB : pnB P r ≤ 12 := hW.nB hr
  have hT4 : pnT P r ≤ 4 := hW.nT hr
  have hC : gChrs P r := hW.chr hr
  have hcl : ¬ pI P 4 r 0 2 = 0 → 0 < pnB P r := hW.cl hr
  refine g_aload_n X dX6_push_0 rfl ?_
  refine g_iload_n X dX6_push_1 rfl ?_
  refine gp_V X RM lm_X6_48 (c_X6_rideAt G hR hW hx hr) cl_X6 hR (show gLive P 6 0 0 from ⟨rfl, rfl⟩) rfl rfl rfl (Nat.le_of_ble_eq_true rfl) (by decide) (by decide) dX6_push_2 (fun v hz q => ?_) (fun _ _ q => q.elim)
  obtain ⟨w2, rfl, e2, rfl⟩ := q
  rcases e2 with rfl
  · skip
    refine GJ.seq (st' := [.ref (ad 3 r 0)]) rfl ?_
    refine g_astore_n (lv' := [(3, .ref (ad 3 r 0)), (0, .ref (ad 6 0 0)), (1, .int x), (2, .int z)]) X dX6_push_5 (by decide) rfl ?_
    refine g_aload_n X dX6_push_6 rfl ?_
    refine g_iload_n X dX6_push_7 rfl ?_
    refine gp_S X RM lm_X6_233 (c_X6_trainAt G hR hl3 hT4) rfl rfl (Nat.le_of_ble_eq_true rfl) (by decide) (by decide) dX6_push_8 (fun v hz q => ?_) (fun E1 hz q => ?_)
    · skip
      obtain ⟨w8, rfl, e8, rfl⟩ := q
      rcases e8 with ⟨j8, f8, k8, rfl⟩
      · skip
        have hl8 : gLive P 5 r j8 := ⟨hr, k8⟩
        refine GJ.seq (st' := [.ref (ad 5 r j8)]) rfl ?_
        refine g_astore (lv' := [(4, .ref (ad 5 r j8)), (3, .ref (ad 3 r 0)), (0, .ref (ad 6 0 0)), (1, .int x), (2, .int z)]) X dX6_push_11 (by decide) rfl ?_
        refine g_aload X dX6_push_13 rfl ?_
        have hji : j8 = i := (nI_eq (by omega) (by omega)).mp (f8.symm.trans hzi)
        subst hji
        refine gp_geti (j := 5) X hR hl8 cl_X5 lk_X6_237 rfl (by decide) rfl rfl dX6_push_15 (fun x15 e15 => ?_)
        refine g_bipush (v := 120) X dX6_push_18 (by decide) ?_
        refine g_icmp_eq 33 X dX6_push_20 (by decide) (fun c20 => ?_) (fun c20 => ?_)
        · skip
          refine g_aload X dX6_push_33 rfl ?_
          refine g_aload_n X dX6_push_35 rfl ?_
          refine gp_get (j := 3) (v := .ref (ad 4 r 0)) X hR hl3 cl_X3 lk_X6_52 rfl (by decide) rfl rfl dX6_push_36 ?_
          refine g_aload X dX6_push_39 rfl ?_
          refine gp_geti (j := 3) X hR hl8 cl_X5 lk_X6_243 rfl (by decide) rfl rfl dX6_push_41 (fun x41 e41 => ?_)
          refine gp_V X RM lm_X6_246 (c_X4_nextStop G hR hl3 hB (e41.trans hb) hbn) cl_X4 hR hl3 rfl rfl rfl (Nat.le_of_ble_eq_true rfl) (by decide) (by decide) dX6_push_44 (fun v hz q => ?_) (fun _ _ q => q.elim)
          obtain ⟨x44, rfl, e44, rfl⟩ := q
          refine GJ.seq (st' := [.int x44, .ref (ad 5 r j8)]) rfl ?_
          refine gp_V X RM lm_X6_249 (c_X5_standIn G hR hl8 hT) cl_X5 hR hl8 rfl rfl rfl (Nat.le_of_ble_eq_true rfl) (by decide) (by decide) dX6_push_47 (fun v hz q => ?_) (fun _ _ q => q.elim)
          obtain ⟨rfl, _, hR, rfl⟩ := q
          refine GJ.seq (st' := []) rfl ?_
          have hlS : gLive (fStand P r j8 l x44) 3 r 0 := by rw [gLive_fStand]; exact hl3
          have hlS5 : gLive (fStand P r j8 l x44) 5 r j8 := by rw [gLive_fStand]; exact hl8
          refine g_aload_n X dX6_push_50 rfl ?_
          refine gp_V X RM lm_X6_119 (c_X3_compareProcessors G hR hlS (show pnB (fStand P r j8 l x44) r ≤ 12 by rw [nB_2 fStand_2]; exact hB) (gChrs_stand hC)) cl_X3 hR hlS rfl rfl rfl (Nat.le_of_ble_eq_true rfl) (by decide) (by decide) dX6_push_51 (fun v hz q => ?_) (fun _ _ q => q.elim)
          obtain ⟨rfl, P51, hR, e51⟩ := q
          refine GJ.seq (st' := []) rfl ?_
          have hlS6 : gLive P51 5 r j8 := by rcases e51 with e | e <;> (rw [e]; exact hlS5)
          refine g_aload X dX6_push_54 rfl ?_
          refine gp_geti (j := 3) X hR hlS6 cl_X5 lk_X6_243 rfl (by decide) rfl rfl dX6_push_56 (fun x56 e56 => ?_)
          refine g_ireturn X E rfl dX6_push_59 (by decide) (by decide) ?_
          exact ⟨_, rfl, by rw [← e15]; exact c20, P51, hR, by rw [← e44]; exact e51, e56⟩
        · skip
          refine gp_thr X RM Nt E th_UnsupportedOperationException ls_X6_241 dX6_push_23 dX6_push_26 dX6_push_27 dX6_push_29 dX6_push_32 ⟨Nat.le_of_ble_eq_true rfl, Nat.le_of_ble_eq_true rfl, Nat.le_of_ble_eq_true rfl, Nat.le_of_ble_eq_true rfl, Nat.le_of_ble_eq_true rfl, Nat.le_of_ble_eq_true rfl⟩ ?_
          exact ⟨⟨rfl, by rw [← e15]; exact c20⟩, rfl⟩
    · skip
      exact absurd hzi (q.1.2 i hi)
set_option maxHeartbeats 4000000 in
set_option maxRecDepth 100000 in
theorem c_X6_leave {Z : gEnv} {ad : gAd} {P : gP} {h : gH} (G : gG Z) (hR : gRep Z ad P h) (hW : Wf P) {y : Int32} {g : Nat} (hy : y = nI g) (hg : g < pnG P) : gMet Z yX6_leave cX6_leave 3 ((Option.some FieldType.int)) 7 1 6 [.ref (ad 6 0 0), .int y] h (qIM (fun x h2 => pI P 1 g 0 6 = 112 ∧ x = pI P 1 g 0 0 ∧ ∃ P2, gRep Z ad P2 h2 ∧ P2 = uJ (uI P 1 g 0 6 111) 12 (pJ P 12 + (pI P 1 g 0 0).toInt64))) (qT h (fun E => E = eREF ∧ ¬ pI P 1 g 0 6 = 112)) := by
  refine g_enter (lv := [(0, .ref (ad 6 0 0)), (1, .int y)]) G.2 (by decide +kernel) (Nat.le_of_ble_eq_true rfl) rfl (fun Γ X Nt E RM => ?_)
  have hlg : gLive P 1 g 0 := ⟨hg, rfl⟩
  refine g_aload_n X dX6_leave_0 rfl ?_
  refine g_iload_n X dX6_leave_1 rfl ?_
  refine gp_V X RM lm_X6_272 (c_X6_guestAt G hR hW hy hg) cl_X6 hR (show gLive P 6 0 0 from ⟨rfl, rfl⟩) rfl rfl rfl (Nat.le_of_ble_eq_true rfl) (by decide) (by decide) dX6_leave_2 (fun v hz q => ?_) (fun _ _ q => q.elim)
  obtain ⟨w2, rfl, e2, rfl⟩ := q
  rcases e2 with rfl
  · skip
    refine GJ.seq (st' := [.ref (ad 1 g 0)]) rfl ?_
    refine g_astore_n (lv' := [(2, .ref (ad 1 g 0)), (0, .ref (ad 6 0 0)), (1, .int y)]) X dX6_leave_5 (by decide) rfl ?_
    refine g_aload_n X dX6_leave_6 rfl ?_
    refine gp_geti (j := 6) X hR hlg cl_X1 lk_X6_276 rfl (by decide) rfl rfl dX6_leave_7 (fun x7 e7 => ?_)
    refine g_bipush (v := 112) X dX6_leave_10 (by decide) ?_
    refine g_icmp_eq 26 X dX6_leave_12 (by decide) (fun c12 => ?_) (fun c12 => ?_)
    · skip
      refine g_aload_n X dX6_leave_26 rfl ?_
      refine g_bipush (v := 111) X dX6_leave_27 (by decide) ?_
      refine gp_puti (j := 6) X hR hlg cl_X1 lk_X6_276 rfl (by decide) rfl (by decide) rfl (by decide) (by decide) dX6_leave_29 (fun h hR => ?_)
      refine g_aload_n X dX6_leave_32 rfl ?_
      refine g_dup X dX6_leave_33 rfl ?_
      refine gp_getl (j := 12) X hR (⟨rfl, rfl⟩) cl_X6 lk_X6_281 rfl (by decide) rfl rfl dX6_leave_34 (fun x34 e34 => ?_)
      refine g_aload_n X dX6_leave_37 rfl ?_
      refine gp_geti (j := 0) X hR hlg cl_X1 lk_X6_284 rfl (by decide) rfl rfl dX6_leave_38 (fun x38 e38 => ?_)
      refine g_i2l X dX6_leave_41 (fun x41 e41 => ?_)
      refine g_ladd X dX6_leave_42 (fun x42 e42 => ?_)
      refine gp_putj (j := 12) X hR (by decide) lk_X6_281 rfl rfl rfl dX6_leave_43 (fun h hR => ?_)
      refine g_aload_n X dX6_leave_46 rfl ?_
      refine gp_geti (j := 0) X hR hlg cl_X1 lk_X6_284 rfl (by decide) rfl rfl dX6_leave_47 (fun x47 e47 => ?_)
      refine g_ireturn X E rfl dX6_leave_50 (by decide) (by decide) ?_
      refine ⟨_, rfl, by rw [← e7]; exact c12, e47.trans (pI_us (by decide)), _, hR, ?_⟩
      rw [e42, e41, e38, e34, show pI (uI P 1 g 0 6 111) 1 g 0 0 = pI P 1 g 0 0 from pI_us (by decide)]
      rfl
    · skip
      refine gp_thrW X RM Nt E th_UnsupportedOperationException ls_X6_279 dX6_leave_15 dX6_leave_18 dX6_leave_19 dX6_leave_22 dX6_leave_25 ⟨Nat.le_of_ble_eq_true rfl, Nat.le_of_ble_eq_true rfl, Nat.le_of_ble_eq_true rfl, Nat.le_of_ble_eq_true rfl, Nat.le_of_ble_eq_true rfl, Nat.le_of_ble_eq_true rfl⟩ ?_
      exact ⟨⟨rfl, by rw [← e7]; exact c12⟩, rfl⟩
set_option maxHeartbeats 4000000 in
set_option maxRecDepth 100000 in
theorem c_X6_queue {Z : gEnv} {ad : gAd} {P : gP} {h : gH} (G : gG Z) (hR : gRep Z ad P h) (hW : Wf P) {y : Int32} {g : Nat} (hy : y = nI g) (hg : g < pnG P) {x : Int32} {r : Nat} (hx : x = nI r) (hr : r < pnR P) {c : Int32} {q : Nat} (hq : c = 108 ∧ q = 0 ∨ c = 115 ∧ q = 1 ∨ c = 114 ∧ q = 2) {l : List Nat} (hL : Ln P r q l) (hn : l.length < 60) : gMet Z yX6_queue cX6_queue 8 ((Option.some FieldType.int)) 7 1 6 [.ref (ad 6 0 0), .int y, .int x, .int c] h (qIM (fun z h2 => pI P 1 g 0 6 = 112 ∧ ¬ pI P 1 g 0 0 < pI P 3 r 0 2 ∧ z = nI (l.length + 1) ∧ ∃ P2 P1, gRep Z ad P2 h2 ∧ (P1 = P ∨ P1 = uI P 1 g 0 7 (-1)) ∧ P2 = uJ (fJoin P1 g r q l (pI P 3 r 0 2)) 11 (pJ P 11 + (pI P 3 r 0 2).toInt64))) (qT h (fun E => E = eREF)) := by
  refine g_enter (lv := [(0, .ref (ad 6 0 0)), (1, .int y), (2, .int x), (3, .int c)]) G.2 (by decide +kernel) (Nat.le_of_ble_eq_true rfl) rfl (fun Γ X Nt E RM => ?_)
  have hlg : gLive P 1 g 0 := ⟨hg, rfl⟩
  have hl3 : gLive P 3 r 0 := ⟨hr, rfl⟩
  have hB : pnB P r ≤ 12 := hW.nB hr
  have hT4 : pnT P r ≤ 4 := hW.nT hr
  have hC : gChrs P r := hW.chr hr
  have hcl : ¬ pI P 4 r 0 2 = 0 → 0 < pnB P r := hW.cl hr
  refine g_aload_n X dX6_queue_0 rfl ?_
  refine g_iload_n X dX6_queue_1 rfl ?_
  refine gp_V X RM lm_X6_272 (c_X6_guestAt G hR hW hy hg) cl_X6 hR (show gLive P 6 0 0 from ⟨rfl, rfl⟩) rfl rfl rfl (Nat.le_of_ble_eq_true rfl) (by decide) (by decide) dX6_queue_2 (fun v hz q => ?_) (fun _ _ q => q.elim)
  obtain ⟨w2, rfl, e2, rfl⟩ := q
  rcases e2 with rfl
  · skip
    refine GJ.seq (st' := [.ref (ad 1 g 0)]) rfl ?_
    refine g_astore (lv' := [(4, .ref (ad 1 g 0)), (0, .ref (ad 6 0 0)), (1, .int y), (2, .int x), (3, .int c)]) X dX6_queue_5 (by decide) rfl ?_
    refine g_aload_n X dX6_queue_7 rfl ?_
    refine g_iload_n X dX6_queue_8 rfl ?_
    refine gp_V X RM lm_X6_48 (c_X6_rideAt G hR hW hx hr) cl_X6 hR (show gLive P 6 0 0 from ⟨rfl, rfl⟩) rfl rfl rfl (Nat.le_of_ble_eq_true rfl) (by decide) (by decide) dX6_queue_9 (fun v hz q => ?_) (fun _ _ q => q.elim)
    obtain ⟨w9, rfl, e9, rfl⟩ := q
    rcases e9 with rfl
    · skip
      refine GJ.seq (st' := [.ref (ad 3 r 0)]) rfl ?_
      refine g_astore (lv' := [(5, .ref (ad 3 r 0)), (4, .ref (ad 1 g 0)), (0, .ref (ad 6 0 0)), (1, .int y), (2, .int x), (3, .int c)]) X dX6_queue_12 (by decide) rfl ?_
      refine g_aload X dX6_queue_14 rfl ?_
      refine g_iload_n X dX6_queue_16 rfl ?_
      refine gp_S X RM lm_X6_287 (c_X6_lineAt G hR hl3 hq) rfl rfl (Nat.le_of_ble_eq_true rfl) (by decide) (by decide) dX6_queue_17 (fun v hz q => ?_) (fun _ _ q => q.elim)
      obtain ⟨w17, rfl, e17, rfl⟩ := q
      rcases e17 with rfl
      · skip
        have hq3 : q < 3 := by rcases hq with e | e | e <;> (rw [e.2]; decide)
        have hlq : gLive P 2 r q := ⟨hr, hq3⟩
        refine GJ.seq (st' := [.ref (ad 2 r q)]) rfl ?_
        refine g_astore (lv' := [(6, .ref (ad 2 r q)), (5, .ref (ad 3 r 0)), (4, .ref (ad 1 g 0)), (0, .ref (ad 6 0 0)), (1, .int y), (2, .int x), (3, .int c)]) X dX6_queue_20 (by decide) rfl ?_
        refine g_iload_n X dX6_queue_22 rfl ?_
        refine g_bipush (v := 114) X dX6_queue_23 (by decide) ?_
        refine g_icmp_ne 32 X dX6_queue_25 (by decide) (fun c25 => ?_) (fun c25 => ?_)
        · skip
          refine g_iconst (v := 0) X dX6_queue_32 (by decide) ?_
          refine g_istore (lv' := [(7, .int 0), (6, .ref (ad 2 r q)), (5, .ref (ad 3 r 0)), (4, .ref (ad 1 g 0)), (0, .ref (ad 6 0 0)), (1, .int y), (2, .int x), (3, .int c)]) X dX6_queue_33 (by decide) rfl ?_
          refine g_aload X dX6_queue_35 rfl ?_
          refine g_aload X dX6_queue_37 rfl ?_
          refine gp_V X RM lm_X6_291 (c_X1_mayQueue G hR hlg hl3) cl_X1 hR hlg rfl rfl rfl (Nat.le_of_ble_eq_true rfl) (by decide) (by decide) dX6_queue_39 (fun v hz q => ?_) (fun _ _ q => q.elim)
          obtain ⟨x39, rfl, e39, rfl⟩ := q
          refine GJ.seq (st' := [.int x39]) rfl ?_
          refine g_if_eq 63 X dX6_queue_42 (by decide) (fun c42 => ?_) (fun c42 => ?_)
          · skip
            refine gp_thrW X RM Nt E th_UnsupportedOperationException ls_X6_298 dX6_queue_63 dX6_queue_66 dX6_queue_67 dX6_queue_70 dX6_queue_73 ⟨Nat.le_of_ble_eq_true rfl, Nat.le_of_ble_eq_true rfl, Nat.le_of_ble_eq_true rfl, Nat.le_of_ble_eq_true rfl, Nat.le_of_ble_eq_true rfl, Nat.le_of_ble_eq_true rfl⟩ ?_
            exact ⟨rfl, rfl⟩
          · skip
            refine g_iload X dX6_queue_45 rfl ?_
            refine g_if_eq 74 X dX6_queue_47 (by decide) (fun c47 => ?_) (fun c47 => ?_)
            · skip
              refine g_iload X dX6_queue_74 rfl ?_
              refine g_if_eq 85 X dX6_queue_76 (by decide) (fun c76 => ?_) (fun c76 => ?_)
              · skip
                refine g_aload X dX6_queue_85 rfl ?_
                refine g_aload X dX6_queue_87 rfl ?_
                refine g_aload X dX6_queue_89 rfl ?_
                refine gp_geti (j := 2) X hR hl3 cl_X3 lk_X6_303 rfl (by decide) rfl rfl dX6_queue_91 (fun x91 e91 => ?_)
                refine gp_V X RM lm_X6_306 (c_X1_joinLine G hR hlg hlq hL hn) cl_X1 hR hlg rfl rfl rfl (Nat.le_of_ble_eq_true rfl) (by decide) (by decide) dX6_queue_94 (fun v hz q => ?_) (fun _ _ q => q.elim)
                obtain ⟨rfl, _, hR, rfl⟩ := q
                refine GJ.seq (st' := []) rfl ?_
                refine g_aload_n X dX6_queue_97 rfl ?_
                refine g_dup X dX6_queue_98 rfl ?_
                refine gp_getl (j := 11) X hR (⟨rfl, rfl⟩) cl_X6 lk_X6_310 rfl (by decide) rfl rfl dX6_queue_99 (fun x99 e99 => ?_)
                refine g_aload X dX6_queue_102 rfl ?_
                refine gp_geti (j := 2) X hR hl3 cl_X3 lk_X6_303 rfl (by decide) rfl rfl dX6_queue_104 (fun x104 e104 => ?_)
                refine g_i2l X dX6_queue_107 (fun x107 e107 => ?_)
                refine g_ladd X dX6_queue_108 (fun x108 e108 => ?_)
                refine gp_putj (j := 11) X hR (by decide) lk_X6_310 rfl rfl rfl dX6_queue_109 (fun h hR => ?_)
                refine g_aload X dX6_queue_112 rfl ?_
                refine gp_geti (j := 1) X hR hlq cl_X2 lk_X6_313 rfl (by decide) rfl rfl dX6_queue_114 (fun x114 e114 => ?_)
                refine g_ireturn X E rfl dX6_queue_117 (by decide) (by decide) ?_
                obtain ⟨m1, m2⟩ := e39 c42
                refine ⟨_, rfl, m1, m2, by rw [e114]; show pI (fJoin P g r q l x91) 2 r q 1 = _; exact fJoin_sz, _, P, hR, Or.inl rfl, ?_⟩
                rw [e108, e99, e107, e104, e91, show pI (fJoin P g r q l (pI _ 3 r 0 2)) 3 r 0 2 = pI P 3 r 0 2 from pI_fJoin (by decide) (by decide)]
                rfl
              · skip
                exact absurd c76 (by decide)
            · skip
              exact absurd c47 (by decide)
        · skip
          refine g_iconst (v := 1) X dX6_queue_28 (by decide) ?_
          refine g_goto 33 X dX6_queue_29 (by decide) ?_
          refine g_istore (lv' := [(7, .int 1), (6, .ref (ad 2 r q)), (5, .ref (ad 3 r 0)), (4, .ref (ad 1 g 0)), (0, .ref (ad 6 0 0)), (1, .int y), (2, .int x), (3, .int c)]) X dX6_queue_33 (by decide) rfl ?_
          refine g_aload X dX6_queue_35 rfl ?_
          refine g_aload X dX6_queue_37 rfl ?_
          refine gp_V X RM lm_X6_291 (c_X1_mayQueue G hR hlg hl3) cl_X1 hR hlg rfl rfl rfl (Nat.le_of_ble_eq_true rfl) (by decide) (by decide) dX6_queue_39 (fun v hz q => ?_) (fun _ _ q => q.elim)
          obtain ⟨x39, rfl, e39, rfl⟩ := q
          refine GJ.seq (st' := [.int x39]) rfl ?_
          refine g_if_eq 63 X dX6_queue_42 (by decide) (fun c42 => ?_) (fun c42 => ?_)
          · skip
            refine gp_thrW X RM Nt E th_UnsupportedOperationException ls_X6_298 dX6_queue_63 dX6_queue_66 dX6_queue_67 dX6_queue_70 dX6_queue_73 ⟨Nat.le_of_ble_eq_true rfl, Nat.le_of_ble_eq_true rfl, Nat.le_of_ble_eq_true rfl, Nat.le_of_ble_eq_true rfl, Nat.le_of_ble_eq_true rfl, Nat.le_of_ble_eq_true rfl⟩ ?_
            exact ⟨rfl, rfl⟩
          · skip
            refine g_iload X dX6_queue_45 rfl ?_
            refine g_if_eq 74 X dX6_queue_47 (by decide) (fun c47 => ?_) (fun c47 => ?_)
            · skip
              exact absurd c47 (by decide)
            · skip
              refine g_aload X dX6_queue_50 rfl ?_
              refine g_iload_n X dX6_queue_52 rfl ?_
              refine g_aload_n X dX6_queue_53 rfl ?_
              refine gp_geti (j := 7) X hR (⟨rfl, rfl⟩) cl_X6 lk_X6_207 rfl (by decide) rfl rfl dX6_queue_54 (fun x54 e54 => ?_)
              refine gp_V X RM lm_X6_295 (c_X1_canUseReturn G hR hlg) cl_X1 hR hlg rfl rfl rfl (Nat.le_of_ble_eq_true rfl) (by decide) (by decide) dX6_queue_57 (fun v hz q => ?_) (fun _ _ q => q.elim)
              obtain ⟨x57, rfl, e57, rfl⟩ := q
              refine GJ.seq (st' := [.int x57]) rfl ?_
              refine g_if_ne 74 X dX6_queue_60 (by decide) (fun c60 => ?_) (fun c60 => ?_)
              · skip
                refine g_iload X dX6_queue_74 rfl ?_
                refine g_if_eq 85 X dX6_queue_76 (by decide) (fun c76 => ?_) (fun c76 => ?_)
                · skip
                  exact absurd c76 (by decide)
                · skip
                  refine g_aload X dX6_queue_79 rfl ?_
                  refine g_iconst (v := (-1)) X dX6_queue_81 (by decide) ?_
                  refine gp_puti (j := 7) X hR hlg cl_X1 lk_X6_300 rfl (by decide) rfl (by decide) rfl rfl rfl dX6_queue_82 (fun h hR => ?_)
                  refine g_aload X dX6_queue_85 rfl ?_
                  refine g_aload X dX6_queue_87 rfl ?_
                  refine g_aload X dX6_queue_89 rfl ?_
                  refine gp_geti (j := 2) X hR hl3 cl_X3 lk_X6_303 rfl (by decide) rfl rfl dX6_queue_91 (fun x91 e91 => ?_)
                  refine gp_V X RM lm_X6_306 (c_X1_joinLine G hR hlg hlq (hL.uI (by decide)) hn) cl_X1 hR hlg rfl rfl rfl (Nat.le_of_ble_eq_true rfl) (by decide) (by decide) dX6_queue_94 (fun v hz q => ?_) (fun _ _ q => q.elim)
                  obtain ⟨rfl, _, hR, rfl⟩ := q
                  refine GJ.seq (st' := []) rfl ?_
                  refine g_aload_n X dX6_queue_97 rfl ?_
                  refine g_dup X dX6_queue_98 rfl ?_
                  refine gp_getl (j := 11) X hR (⟨rfl, rfl⟩) cl_X6 lk_X6_310 rfl (by decide) rfl rfl dX6_queue_99 (fun x99 e99 => ?_)
                  refine g_aload X dX6_queue_102 rfl ?_
                  refine gp_geti (j := 2) X hR hl3 cl_X3 lk_X6_303 rfl (by decide) rfl rfl dX6_queue_104 (fun x104 e104 => ?_)
                  refine g_i2l X dX6_queue_107 (fun x107 e107 => ?_)
                  refine g_ladd X dX6_queue_108 (fun x108 e108 => ?_)
                  refine gp_putj (j := 11) X hR (by decide) lk_X6_310 rfl rfl rfl dX6_queue_109 (fun h hR => ?_)
                  refine g_aload X dX6_queue_112 rfl ?_
                  refine gp_geti (j := 1) X hR hlq cl_X2 lk_X6_313 rfl (by decide) rfl rfl dX6_queue_114 (fun x114 e114 => ?_)
                  refine g_ireturn X E rfl dX6_queue_117 (by decide) (by decide) ?_
                  obtain ⟨m1, m2⟩ := e39 c42
                  refine ⟨_, rfl, m1, m2, by rw [e114]; show pI (fJoin (uI P 1 g 0 7 (-1)) g r q l x91) 2 r q 1 = _; exact fJoin_sz, _, uI P 1 g 0 7 (-1), hR, Or.inr rfl, ?_⟩
                  rw [e108, e99, e107, e104, e91, show pI (fJoin (uI P 1 g 0 7 (-1)) g r q l (pI _ 3 r 0 2)) 3 r 0 2 = pI P 3 r 0 2 from pI_fJoin (by decide) (by decide)]
                  rfl
              · skip
                refine gp_thrW X RM Nt E th_UnsupportedOperationException ls_X6_298 dX6_queue_63 dX6_queue_66 dX6_queue_67 dX6_queue_70 dX6_queue_73 ⟨Nat.le_of_ble_eq_true rfl, Nat.le_of_ble_eq_true rfl, Nat.le_of_ble_eq_true rfl, Nat.le_of_ble_eq_true rfl, Nat.le_of_ble_eq_true rfl, Nat.le_of_ble_eq_true rfl⟩ ?_
                exact ⟨rfl, rfl⟩
set_option maxHeartbeats 4000000 in
set_option maxRecDepth 100000 in
theorem c_X6_quit {Z : gEnv} {ad : gAd} {P : gP} {h : gH} (G : gG Z) (hR : gRep Z ad P h) (hW : Wf P) {y : Int32} {g : Nat} (hy : y = nI g) (hg : g < pnG P) {r q : Nat} {l : List Nat} (hgl : pI P 1 g 0 6 = 113 → pGL P g = some (r, q) ∧ gLive P 2 r q ∧ Ln P r q l) : gMet Z yX6_quit cX6_quit 4 ((Option.some FieldType.int)) 7 1 6 [.ref (ad 6 0 0), .int y] h (qIM (fun x h2 => pI P 1 g 0 6 = 113 ∧ x = pI P 1 g 0 10 ∧ ∃ P2, gRep Z ad P2 h2 ∧ P2 = uJ (fLeave P g r q l) 11 (pJ P 11 - (pI P 1 g 0 10).toInt64))) (qT h (fun E => E = eREF ∧ ¬ pI P 1 g 0 6 = 113)) := by
  refine g_enter (lv := [(0, .ref (ad 6 0 0)), (1, .int y)]) G.2 (by decide +kernel) (Nat.le_of_ble_eq_true rfl) rfl (fun Γ X Nt E RM => ?_)
  have hlg : gLive P 1 g 0 := ⟨hg, rfl⟩
  refine g_aload_n X dX6_quit_0 rfl ?_
  refine g_iload_n X dX6_quit_1 rfl ?_
  refine gp_V X RM lm_X6_272 (c_X6_guestAt G hR hW hy hg) cl_X6 hR (show gLive P 6 0 0 from ⟨rfl, rfl⟩) rfl rfl rfl (Nat.le_of_ble_eq_true rfl) (by decide) (by decide) dX6_quit_2 (fun v hz q => ?_) (fun _ _ q => q.elim)
  obtain ⟨w2, rfl, e2, rfl⟩ := q
  rcases e2 with rfl
  · skip
    refine GJ.seq (st' := [.ref (ad 1 g 0)]) rfl ?_
    refine g_astore_n (lv' := [(2, .ref (ad 1 g 0)), (0, .ref (ad 6 0 0)), (1, .int y)]) X dX6_quit_5 (by decide) rfl ?_
    refine g_aload_n X dX6_quit_6 rfl ?_
    refine gp_geti (j := 6) X hR hlg cl_X1 lk_X6_276 rfl (by decide) rfl rfl dX6_quit_7 (fun x7 e7 => ?_)
    refine g_bipush (v := 113) X dX6_quit_10 (by decide) ?_
    refine g_icmp_eq 26 X dX6_quit_12 (by decide) (fun c12 => ?_) (fun c12 => ?_)
    · skip
      refine g_aload_n X dX6_quit_26 rfl ?_
      obtain ⟨hp1, hp2, hp3⟩ := hgl (by rw [← e7]; exact c12)
      refine gp_V X RM lm_X6_320 (c_X1_leaveLine G hR hlg hp2 hp3 hp1) cl_X1 hR hlg rfl rfl rfl (Nat.le_of_ble_eq_true rfl) (by decide) (by decide) dX6_quit_27 (fun v hz q => ?_) (fun _ _ q => q.elim)
      obtain ⟨x27, rfl, P27, hR, e27⟩ := q
      refine GJ.seq (st' := [.int x27]) rfl ?_
      obtain ⟨e27a, e27b⟩ := e27
      refine g_istore_n (lv' := [(3, .int x27), (2, .ref (ad 1 g 0)), (0, .ref (ad 6 0 0)), (1, .int y)]) X dX6_quit_30 (by decide) rfl ?_
      refine g_aload_n X dX6_quit_31 rfl ?_
      refine g_dup X dX6_quit_32 rfl ?_
      refine gp_getl (j := 11) X hR (⟨rfl, rfl⟩) cl_X6 lk_X6_310 rfl (by decide) rfl rfl dX6_quit_33 (fun x33 e33 => ?_)
      refine g_iload_n X dX6_quit_36 rfl ?_
      refine g_i2l X dX6_quit_37 (fun x37 e37 => ?_)
      refine g_lsub X dX6_quit_38 (fun x38 e38 => ?_)
      refine gp_putj (j := 11) X hR (by decide) lk_X6_310 rfl rfl rfl dX6_quit_39 (fun h hR => ?_)
      refine g_iload_n X dX6_quit_42 rfl ?_
      refine g_ireturn X E rfl dX6_quit_43 (by decide) (by decide) ?_
      refine ⟨_, rfl, by rw [← e7]; exact c12, e27a, _, hR, ?_⟩
      rw [e38, e37, e33, e27a, e27b]
      rfl
    · skip
      refine gp_thrW X RM Nt E th_UnsupportedOperationException ls_X6_318 dX6_quit_15 dX6_quit_18 dX6_quit_19 dX6_quit_22 dX6_quit_25 ⟨Nat.le_of_ble_eq_true rfl, Nat.le_of_ble_eq_true rfl, Nat.le_of_ble_eq_true rfl, Nat.le_of_ble_eq_true rfl, Nat.le_of_ble_eq_true rfl, Nat.le_of_ble_eq_true rfl⟩ ?_
      exact ⟨⟨rfl, by rw [← e7]; exact c12⟩, rfl⟩
set_option maxHeartbeats 4000000 in
set_option maxRecDepth 100000 in
theorem c_X6_takeReturn {Z : gEnv} {ad : gAd} {P : gP} {h : gH} (G : gG Z) (hR : gRep Z ad P h) (hW : Wf P) {y : Int32} {g : Nat} (hy : y = nI g) (hg : g < pnG P) {x : Int32} {r : Nat} (hx : x = nI r) (hr : r < pnR P) : gMet Z yX6_takeReturn cX6_takeReturn 5 ((Option.some FieldType.int)) 7 1 6 [.ref (ad 6 0 0), .int y, .int x] h (qIM (fun z h2 => ¬ pI P 1 g 0 6 = 111 ∧ z = pI P 6 0 0 7 + 5 + pI P 2 r 0 1 ∧ ∃ P2, gRep Z ad P2 h2 ∧ P2 = uI (uI P 1 g 0 7 x) 1 g 0 8 z)) (qT h (fun E => E = eREF ∧ pI P 1 g 0 6 = 111)) := by
  refine g_enter (lv := [(0, .ref (ad 6 0 0)), (1, .int y), (2, .int x)]) G.2 (by decide +kernel) (Nat.le_of_ble_eq_true rfl) rfl (fun Γ X Nt E RM => ?_)
  have hlg : gLive P 1 g 0 := ⟨hg, rfl⟩
  have hl3 : gLive P 3 r 0 := ⟨hr, rfl⟩
  have hB : pnB P r ≤ 12 := hW.nB hr
  have hT4 : pnT P r ≤ 4 := hW.nT hr
  have hC : gChrs P r := hW.chr hr
  have hcl : ¬ pI P 4 r 0 2 = 0 → 0 < pnB P r := hW.cl hr
  refine g_aload_n X dX6_takeReturn_0 rfl ?_
  refine g_iload_n X dX6_takeReturn_1 rfl ?_
  refine gp_V X RM lm_X6_272 (c_X6_guestAt G hR hW hy hg) cl_X6 hR (show gLive P 6 0 0 from ⟨rfl, rfl⟩) rfl rfl rfl (Nat.le_of_ble_eq_true rfl) (by decide) (by decide) dX6_takeReturn_2 (fun v hz q => ?_) (fun _ _ q => q.elim)
  obtain ⟨w2, rfl, e2, rfl⟩ := q
  rcases e2 with rfl
  · skip
    refine GJ.seq (st' := [.ref (ad 1 g 0)]) rfl ?_
    refine g_astore_n (lv' := [(3, .ref (ad 1 g 0)), (0, .ref (ad 6 0 0)), (1, .int y), (2, .int x)]) X dX6_takeReturn_5 (by decide) rfl ?_
    refine g_aload_n X dX6_takeReturn_6 rfl ?_
    refine g_iload_n X dX6_takeReturn_7 rfl ?_
    refine gp_V X RM lm_X6_48 (c_X6_rideAt G hR hW hx hr) cl_X6 hR (show gLive P 6 0 0 from ⟨rfl, rfl⟩) rfl rfl rfl (Nat.le_of_ble_eq_true rfl) (by decide) (by decide) dX6_takeReturn_8 (fun v hz q => ?_) (fun _ _ q => q.elim)
    obtain ⟨w8, rfl, e8, rfl⟩ := q
    rcases e8 with rfl
    · skip
      refine GJ.seq (st' := [.ref (ad 3 r 0)]) rfl ?_
      refine g_astore (lv' := [(4, .ref (ad 3 r 0)), (3, .ref (ad 1 g 0)), (0, .ref (ad 6 0 0)), (1, .int y), (2, .int x)]) X dX6_takeReturn_11 (by decide) rfl ?_
      refine g_aload_n X dX6_takeReturn_13 rfl ?_
      refine gp_geti (j := 6) X hR hlg cl_X1 lk_X6_276 rfl (by decide) rfl rfl dX6_takeReturn_14 (fun x14 e14 => ?_)
      refine g_bipush (v := 111) X dX6_takeReturn_17 (by decide) ?_
      refine g_icmp_ne 33 X dX6_takeReturn_19 (by decide) (fun c19 => ?_) (fun c19 => ?_)
      · skip
        refine g_aload_n X dX6_takeReturn_33 rfl ?_
        refine g_iload_n X dX6_takeReturn_34 rfl ?_
        refine gp_puti (j := 7) X hR hlg cl_X1 lk_X6_300 rfl (by decide) rfl (by decide) rfl rfl rfl dX6_takeReturn_35 (fun h hR => ?_)
        refine g_aload_n X dX6_takeReturn_38 rfl ?_
        refine g_aload_n X dX6_takeReturn_39 rfl ?_
        refine gp_geti (j := 7) X hR (⟨rfl, rfl⟩) cl_X6 lk_X6_207 rfl (by decide) rfl rfl dX6_takeReturn_40 (fun x40 e40 => ?_)
        refine g_iconst (v := 5) X dX6_takeReturn_43 (by decide) ?_
        refine g_iadd X dX6_takeReturn_44 (fun x44 e44 => ?_)
        refine g_aload X dX6_takeReturn_45 rfl ?_
        refine gp_get (j := 6) (v := .ref (ad 2 r 0)) X hR hl3 cl_X3 lk_X6_325 rfl (by decide) rfl rfl dX6_takeReturn_47 ?_
        refine gp_geti (j := 1) X hR (⟨hl3.1, by decide⟩) cl_X2 lk_X6_313 rfl (by decide) rfl rfl dX6_takeReturn_50 (fun x50 e50 => ?_)
        refine g_iadd X dX6_takeReturn_53 (fun x53 e53 => ?_)
        refine gp_puti (j := 8) X hR hlg cl_X1 lk_X6_329 rfl (by decide) rfl (by decide) rfl rfl rfl dX6_takeReturn_54 (fun h hR => ?_)
        refine g_aload_n X dX6_takeReturn_57 rfl ?_
        refine gp_geti (j := 8) X hR hlg cl_X1 lk_X6_329 rfl (by decide) rfl rfl dX6_takeReturn_58 (fun x58 e58 => ?_)
        refine g_ireturn X E rfl dX6_takeReturn_61 (by decide) (by decide) ?_
        have hz : x58 = x53 := by rw [e58, pI_uI, if_pos ⟨rfl, rfl, rfl, rfl⟩]
        refine ⟨_, rfl, by rw [← e14]; exact c19, ?_, _, hR, by rw [hz]⟩
        rw [hz, e53, e44, e40, e50]
        rfl
      · skip
        refine gp_thrW X RM Nt E th_UnsupportedOperationException ls_X6_323 dX6_takeReturn_22 dX6_takeReturn_25 dX6_takeReturn_26 dX6_takeReturn_29 dX6_takeReturn_32 ⟨Nat.le_of_ble_eq_true rfl, Nat.le_of_ble_eq_true rfl, Nat.le_of_ble_eq_true rfl, Nat.le_of_ble_eq_true rfl, Nat.le_of_ble_eq_true rfl, Nat.le_of_ble_eq_true rfl⟩ ?_
        exact ⟨⟨rfl, by rw [← e14]; exact c19⟩, rfl⟩
set_option maxHeartbeats 4000000 in
set_option maxRecDepth 100000 in
theorem c_X6_eat {Z : gEnv} {ad : gAd} {P : gP} {h : gH} (G : gG Z) (hR : gRep Z ad P h) (hW : Wf P) {y : Int32} {g : Nat} (hy : y = nI g) (hg : g < pnG P) : gMet Z yX6_eat cX6_eat 3 ((Option.some FieldType.int)) 7 1 6 [.ref (ad 6 0 0), .int y] h (qIM (fun _ h2 => pI P 1 g 0 6 = 112 ∧ ¬ pI P 1 g 0 0 < 5 ∧ ∃ P2, gRep Z ad P2 h2 ∧ P2 = uJ (fMeal P g) 11 (pJ P 11 + 5))) (qT h (fun E => E = eREF ∧ (¬ pI P 1 g 0 6 = 112 ∨ pI P 1 g 0 0 < 5))) := by
  refine g_enter (lv := [(0, .ref (ad 6 0 0)), (1, .int y)]) G.2 (by decide +kernel) (Nat.le_of_ble_eq_true rfl) rfl (fun Γ X Nt E RM => ?_)
  have hlg : gLive P 1 g 0 := ⟨hg, rfl⟩
  refine g_aload_n X dX6_eat_0 rfl ?_
  refine g_iload_n X dX6_eat_1 rfl ?_
  refine gp_V X RM lm_X6_272 (c_X6_guestAt G hR hW hy hg) cl_X6 hR (show gLive P 6 0 0 from ⟨rfl, rfl⟩) rfl rfl rfl (Nat.le_of_ble_eq_true rfl) (by decide) (by decide) dX6_eat_2 (fun v hz q => ?_) (fun _ _ q => q.elim)
  obtain ⟨w2, rfl, e2, rfl⟩ := q
  rcases e2 with rfl
  · skip
    refine GJ.seq (st' := [.ref (ad 1 g 0)]) rfl ?_
    refine g_astore_n (lv' := [(2, .ref (ad 1 g 0)), (0, .ref (ad 6 0 0)), (1, .int y)]) X dX6_eat_5 (by decide) rfl ?_
    refine g_aload_n X dX6_eat_6 rfl ?_
    refine gp_geti (j := 6) X hR hlg cl_X1 lk_X6_276 rfl (by decide) rfl rfl dX6_eat_7 (fun x7 e7 => ?_)
    refine g_bipush (v := 112) X dX6_eat_10 (by decide) ?_
    refine g_icmp_ne 23 X dX6_eat_12 (by decide) (fun c12 => ?_) (fun c12 => ?_)
    · skip
      refine gp_thrW X RM Nt E th_UnsupportedOperationException ls_X6_332 dX6_eat_23 dX6_eat_26 dX6_eat_27 dX6_eat_30 dX6_eat_33 ⟨Nat.le_of_ble_eq_true rfl, Nat.le_of_ble_eq_true rfl, Nat.le_of_ble_eq_true rfl, Nat.le_of_ble_eq_true rfl, Nat.le_of_ble_eq_true rfl, Nat.le_of_ble_eq_true rfl⟩ ?_
      exact ⟨⟨rfl, by simp_all [-Int32.not_lt]⟩, rfl⟩
    · skip
      refine g_aload_n X dX6_eat_15 rfl ?_
      refine gp_geti (j := 0) X hR hlg cl_X1 lk_X6_284 rfl (by decide) rfl rfl dX6_eat_16 (fun x16 e16 => ?_)
      refine g_iconst (v := 5) X dX6_eat_19 (by decide) ?_
      refine g_icmp_ge 34 X dX6_eat_20 (by decide) (fun c20 => ?_) (fun c20 => ?_)
      · skip
        refine g_aload_n X dX6_eat_34 rfl ?_
        refine gp_V X RM lm_X6_334 (c_X1_haveMeal G hR hlg) cl_X1 hR hlg rfl rfl rfl (Nat.le_of_ble_eq_true rfl) (by decide) (by decide) dX6_eat_35 (fun v hz q => ?_) (fun _ _ q => q.elim)
        obtain ⟨rfl, _, hR, rfl⟩ := q
        refine GJ.seq (st' := []) rfl ?_
        refine g_aload_n X dX6_eat_38 rfl ?_
        refine g_dup X dX6_eat_39 rfl ?_
        refine gp_getl (j := 11) X hR (⟨rfl, rfl⟩) cl_X6 lk_X6_310 rfl (by decide) rfl rfl dX6_eat_40 (fun x40 e40 => ?_)
        refine g_ldc2 (v := 5) X dX6_eat_43 lcc_X6_337 ?_
        refine g_ladd X dX6_eat_46 (fun x46 e46 => ?_)
        refine gp_putj (j := 11) X hR (by decide) lk_X6_310 rfl rfl rfl dX6_eat_47 (fun h hR => ?_)
        refine g_aload_n X dX6_eat_50 rfl ?_
        refine gp_geti (j := 3) X hR hlg cl_X1 lk_X6_339 rfl (by decide) rfl rfl dX6_eat_51 (fun x51 e51 => ?_)
        refine g_ireturn X E rfl dX6_eat_54 (by decide) (by decide) ?_
        refine ⟨_, rfl, by rw [← e7]; exact c12, by rw [← e16]; exact c20, _, hR, ?_⟩
        rw [e46, e40]
        rfl
      · skip
        refine gp_thrW X RM Nt E th_UnsupportedOperationException ls_X6_332 dX6_eat_23 dX6_eat_26 dX6_eat_27 dX6_eat_30 dX6_eat_33 ⟨Nat.le_of_ble_eq_true rfl, Nat.le_of_ble_eq_true rfl, Nat.le_of_ble_eq_true rfl, Nat.le_of_ble_eq_true rfl, Nat.le_of_ble_eq_true rfl, Nat.le_of_ble_eq_true rfl⟩ ?_
        exact ⟨⟨rfl, by simp_all [-Int32.not_lt]⟩, rfl⟩
end GPARK
