/-! rides: what keeps a train, moving, boarding, soundness -/
section GRIDE2
def fPFA (P : gP) (r i : Nat) (p : Int32) : Nat → Nat → Bool
  | 0, _ => true
  | m + 1, k => if k < pnT P r ∧ k ≠ i ∧ ¬ pI P 5 r k 6 &&& p = 0 then false else fPFA P r i p m (k + 1)
theorem fPFA_true {P : gP} {r i : Nat} {p : Int32} : ∀ {m k : Nat}, fPFA P r i p m k = true → ∀ j, k ≤ j → j < k + m → j < pnT P r → j ≠ i → pI P 5 r j 6 &&& p = 0
  | 0, k, h, j, h1, h2, h3, h4 => by omega
  | m + 1, k, h, j, h1, h2, h3, h4 => by
    unfold fPFA at h
    split at h
    next hh => cases h
    next hh =>
      rcases Nat.eq_or_lt_of_le h1 with q | q
      · subst q
        exact Decidable.byContradiction (fun e => hh ⟨h3, h4, e⟩)
      · exact fPFA_true h j (by omega) (by omega) h3 h4
def fPF (P : gP) (r i b : Nat) : Bool := fPFA P r i (fPath P r (pnB P r) b 0) 4 0 && decide ((fSB P r 0 (pnB P r) 0 0 ||| fSB P r 1 (pnB P r) 0 0) &&& (fPath P r (pnB P r) b 0 &&& ((1 <<< (pI P 5 r i 3 &&& 31)) ^^^ (-1))) = 0)
def fKS (P : gP) (r i b : Nat) (w : Int32) : Int32 := if ¬ pI P 3 r 0 14 = 0 then 101 else if ¬ pI P 3 r 0 13 = 0 then 108 else if fBad P r w (pnB P r) (fNx (pnB P r) b) 3 0 then 102 else if fPF P r i b then 46 else 114
theorem fKS_chr (P : gP) (r i b : Nat) (w : Int32) : narrow .char (.int (fKS P r i b w)) = .int (fKS P r i b w) := by
  unfold fKS
  split
  · rfl
  · split
    · rfl
    · split
      · rfl
      · split <;> rfl
theorem fKS_free {P : gP} {r i b : Nat} {w : Int32} (h : fKS P r i b w = 46) : ∀ j, j < pnT P r → j < 4 → j ≠ i → pI P 5 r j 6 &&& fPath P r (pnB P r) b 0 = 0 := by
  unfold fKS at h
  split at h
  · exact absurd h (by decide)
  · split at h
    · exact absurd h (by decide)
    · split at h
      · exact absurd h (by decide)
      · split at h
        next hp => exact fun j h1 h2 h3 => fPFA_true (Bool.and_eq_true_iff.mp hp).1 j (Nat.zero_le _) (by omega) h1 h3
        next => exact absurd h (by decide)
def fKSt (P : gP) (r : Nat) (w lt : Int32) : Int32 := if pI P 4 r 0 2 = 0 then 110 else match fSt P r with
  | none => 110
  | some i => if pI P 3 r 0 9 = -1 then 111 else if pI P 3 r 0 10 = 0 ∨ ¬ pI P 3 r 0 11 < 50 then 105 else if pI P 3 r 0 1 < w ∨ ¬ lt = 0 then 119 else fKS P r i 0 w
def fSend (P : gP) (r i b : Nat) : gP := uI (uI (fGo P r i (fPath P r (pnB P r) b 0)) 3 r 0 12 (pI P 3 r 0 12 + 1)) 3 r 0 11 (pI P 3 r 0 11 + 1)
theorem pI_fGo {P : gP} {r i : Nat} {p : Int32} {k r' i' s : Nat} (hk : k ≠ 5) : pI (fGo P r i p) k r' i' s = pI P k r' i' s := by
  unfold fGo
  split <;> simp [pI_uI, hk]
theorem fGo_2 {P : gP} {r i : Nat} {p : Int32} : (fGo P r i p).2 = P.2 := by unfold fGo; split <;> rfl
theorem gLive_2 {P P' : gP} (h : P'.2 = P.2) (k r i : Nat) : gLive P' k r i = gLive P k r i := by
  have e : P' = (P'.1, P.2) := by rw [← h]
  rw [e]
  rfl
set_option maxHeartbeats 4000000 in
set_option maxRecDepth 100000 in
theorem c_X3_isPathFree {Z : gEnv} {ad : gAd} {P : gP} {h : gH} (G : gG Z) (hR : gRep Z ad P h) {r : Nat} (hl : gLive P 3 r 0) (hB : pnB P r ≤ 12) (hC : gChrs P r) {i b : Nat} (hi : i < pnT P r) (hb : pI P 5 r i 3 = nI b) (hbn : b < pnB P r) : gMet Z yX3_isPathFree cX3_isPathFree 7 ((Option.some FieldType.boolean)) 4 0 0 [.ref (ad 3 r 0), .ref (ad 5 r i)] h (qI h (fun y => y = if fPF P r i b then 1 else 0)) (qN) := by
  refine g_enter (lv := [(0, .ref (ad 3 r 0)), (1, .ref (ad 5 r i))]) G.2 (by decide +kernel) (Nat.le_of_ble_eq_true rfl) rfl (fun Γ X Nt E RM => ?_)
  have hlT : gLive P 5 r i := ⟨hl.1, hi⟩
  have L : ∀ (m : Nat) (k : Nat) (x5 x2 : Int32) (hm : m + k = 4) (hk : x5 = nI k) (h2 : x2 = fPath P r (pnB P r) b 0) (hf : fPFA P r i (fPath P r (pnB P r) b 0) m k = fPFA P r i (fPath P r (pnB P r) b 0) 4 0), GJ Z Γ h 0 0 24 [(5, .int x5), (4, .int 4), (3, .ref (ad 11 r 0)), (2, .int x2), (1, .ref (ad 5 r i)), (0, .ref (ad 3 r 0))] [] := by
    intro m
    induction m with
    | zero =>
      intro k x5 x2 hm hk h2 hf
      refine g_iload X dX3_isPathFree_24 rfl ?_
      refine g_iload X dX3_isPathFree_26 rfl ?_
      refine g_icmp_ge 66 X dX3_isPathFree_28 (by decide) (fun c28 => ?_) (fun c28 => ?_)
      · skip
        refine g_iload_n X dX3_isPathFree_66 rfl ?_
        refine g_iconst (v := 1) X dX3_isPathFree_67 (by decide) ?_
        refine g_aload_n X dX3_isPathFree_68 rfl ?_
        refine gp_geti (j := 3) X hR hlT cl_X5 lk_X3_56 rfl (by decide) rfl rfl dX3_isPathFree_69 (fun x69 e69 => ?_)
        refine g_ishl X dX3_isPathFree_72 (fun x72 e72 => ?_)
        refine g_iconst (v := (-1)) X dX3_isPathFree_73 (by decide) ?_
        refine g_ixor X dX3_isPathFree_74 (fun x74 e74 => ?_)
        refine g_iand X dX3_isPathFree_75 (fun x75 e75 => ?_)
        refine g_istore_n (lv' := [(3, .int x75), (5, .int x5), (4, .int 4), (2, .int x2), (1, .ref (ad 5 r i)), (0, .ref (ad 3 r 0))]) X dX3_isPathFree_76 (by decide) rfl ?_
        refine g_aload_n X dX3_isPathFree_77 rfl ?_
        refine g_iconst (v := 0) X dX3_isPathFree_78 (by decide) ?_
        refine gp_V X RM lm_X3_92 (c_X3_blocksSeenBy G hR hl hB hC) cl_X3 hR hl rfl rfl rfl (Nat.le_of_ble_eq_true rfl) (by decide) (by decide) dX3_isPathFree_79 (fun v hz q => ?_) (fun _ _ q => q.elim)
        obtain ⟨x79, rfl, e79, rfl⟩ := q
        refine GJ.seq (st' := [.int x79]) rfl ?_
        refine g_aload_n X dX3_isPathFree_82 rfl ?_
        refine g_iconst (v := 1) X dX3_isPathFree_83 (by decide) ?_
        refine gp_V X RM lm_X3_92 (c_X3_blocksSeenBy G hR hl hB hC) cl_X3 hR hl rfl rfl rfl (Nat.le_of_ble_eq_true rfl) (by decide) (by decide) dX3_isPathFree_84 (fun v hz q => ?_) (fun _ _ q => q.elim)
        obtain ⟨x84, rfl, e84, rfl⟩ := q
        refine GJ.seq (st' := [.int x84, .int x79]) rfl ?_
        refine g_ior X dX3_isPathFree_87 (fun x87 e87 => ?_)
        refine g_iload_n X dX3_isPathFree_88 rfl ?_
        refine g_iand X dX3_isPathFree_89 (fun x89 e89 => ?_)
        refine g_if_ne 97 X dX3_isPathFree_90 (by decide) (fun c90 => ?_) (fun c90 => ?_)
        · skip
          refine g_iconst (v := 0) X dX3_isPathFree_97 (by decide) ?_
          refine g_ireturn X E (by decide) dX3_isPathFree_98 (by decide) (by decide) ?_
          refine ⟨_, rfl, ?_, rfl⟩
          have hp : fPFA P r i (fPath P r (pnB P r) b 0) 4 0 = true := by rw [← hf]; rfl
          simp only [fPF, hp, Bool.true_and]
          rw [← e69, ← h2, ← e72, ← e74, ← e75, ← e79, ← e84, ← e87, ← e89]
          simp [c90]
        · skip
          refine g_iconst (v := 1) X dX3_isPathFree_93 (by decide) ?_
          refine g_goto 98 X dX3_isPathFree_94 (by decide) ?_
          refine g_ireturn X E (by decide) dX3_isPathFree_98 (by decide) (by decide) ?_
          refine ⟨_, rfl, ?_, rfl⟩
          have hp : fPFA P r i (fPath P r (pnB P r) b 0) 4 0 = true := by rw [← hf]; rfl
          simp only [fPF, hp, Bool.true_and]
          rw [← e69, ← h2, ← e72, ← e74, ← e75, ← e79, ← e84, ← e87, ← e89]
          simp [c90]
      · skip
        exact absurd c28 (by rw [hk]; exact nI_nlt (b := 4) (by omega) (by omega))
    | succ m ih =>
      intro k x5 x2 hm hk h2 hf
      refine g_iload X dX3_isPathFree_24 rfl ?_
      refine g_iload X dX3_isPathFree_26 rfl ?_
      refine g_icmp_ge 66 X dX3_isPathFree_28 (by decide) (fun c28 => ?_) (fun c28 => ?_)
      · skip
        exact absurd (by rw [hk]; exact nI_lt (b := 4) (by omega) (by omega)) c28
      · skip
        refine g_aload_n X dX3_isPathFree_31 rfl ?_
        refine g_iload X dX3_isPathFree_32 rfl ?_
        refine gp_aald_if (j := k) X hR hl G.t4 rfl hk (by omega) (by decide) dX3_isPathFree_34 (fun h34 => ?_) (fun h34 => ?_)
        · skip
          have hl34 : gLive P 5 r k := ⟨(hl).1, h34⟩
          refine g_astore (lv' := [(6, .ref (ad 5 r k)), (5, .int x5), (4, .int 4), (3, .ref (ad 11 r 0)), (2, .int x2), (1, .ref (ad 5 r i)), (0, .ref (ad 3 r 0))]) X dX3_isPathFree_35 (by decide) rfl ?_
          refine g_aload X dX3_isPathFree_37 rfl ?_
          refine g_ifnull X dX3_isPathFree_39 ?_
          refine g_aload X dX3_isPathFree_42 rfl ?_
          refine g_aload_n X dX3_isPathFree_44 rfl ?_
          refine g_acmp_eq 60 X dX3_isPathFree_45 (by decide) (fun c45 => ?_) (fun c45 => ?_)
          · skip
            refine gp_iinc 1 X dX3_isPathFree_60 rfl (by decide) (fun x60 e60 => ?_)
            refine GJ.leq (lv' := [(5, .int x60), (6, .ref (ad 5 r k)), (4, .int 4), (3, .ref (ad 11 r 0)), (2, .int x2), (1, .ref (ad 5 r i)), (0, .ref (ad 3 r 0))]) rfl ?_
            refine g_goto 24 X dX3_isPathFree_63 (by decide) ?_
            refine GJ.pick [0, 2, 3, 4, 5, 6] rfl ?_
            exact ih (k + 1) x60 x2 (by omega) (by rw [e60, hk]; exact nI_1 k) h2 (by
              rw [← hf, fPFA, if_neg ?_]
              intro hh
              first
              | exact h34 hh.1
              | exact hh.2.1 (hR.2 _ _ _ _ _ _ hl34 hlT c45).2.2
              | exact hh.2.2 (by rw [← h2, ← e50, ← e54]; exact c55))
          · skip
            refine g_aload X dX3_isPathFree_48 rfl ?_
            refine gp_geti (j := 6) X hR hl34 cl_X5 lk_X3_132 rfl (by decide) rfl rfl dX3_isPathFree_50 (fun x50 e50 => ?_)
            refine g_iload_n X dX3_isPathFree_53 rfl ?_
            refine g_iand X dX3_isPathFree_54 (fun x54 e54 => ?_)
            refine g_if_eq 60 X dX3_isPathFree_55 (by decide) (fun c55 => ?_) (fun c55 => ?_)
            · skip
              refine gp_iinc 1 X dX3_isPathFree_60 rfl (by decide) (fun x60 e60 => ?_)
              refine GJ.leq (lv' := [(5, .int x60), (6, .ref (ad 5 r k)), (4, .int 4), (3, .ref (ad 11 r 0)), (2, .int x2), (1, .ref (ad 5 r i)), (0, .ref (ad 3 r 0))]) rfl ?_
              refine g_goto 24 X dX3_isPathFree_63 (by decide) ?_
              refine GJ.pick [0, 2, 3, 4, 5, 6] rfl ?_
              exact ih (k + 1) x60 x2 (by omega) (by rw [e60, hk]; exact nI_1 k) h2 (by
                rw [← hf, fPFA, if_neg ?_]
                intro hh
                first
                | exact h34 hh.1
                | exact hh.2.1 (hR.2 _ _ _ _ _ _ hl34 hlT c45).2.2
                | exact hh.2.2 (by rw [← h2, ← e50, ← e54]; exact c55))
            · skip
              refine g_iconst (v := 0) X dX3_isPathFree_58 (by decide) ?_
              refine g_ireturn X E (by decide) dX3_isPathFree_59 (by decide) (by decide) ?_
              refine ⟨_, rfl, ?_, rfl⟩
              have hp : fPFA P r i (fPath P r (pnB P r) b 0) 4 0 = false := by
                rw [← hf, fPFA, if_pos ⟨h34, fun e => c45 (by rw [e]), by rw [← h2, ← e50, ← e54]; exact c55⟩]
              simp [fPF, hp]
        · skip
          refine g_astoreN (lv' := [(6, .null), (5, .int x5), (4, .int 4), (3, .ref (ad 11 r 0)), (2, .int x2), (1, .ref (ad 5 r i)), (0, .ref (ad 3 r 0))]) X dX3_isPathFree_35 (by decide) rfl ?_
          refine g_aloadN X dX3_isPathFree_37 rfl ?_
          refine g_ifnullN 60 X dX3_isPathFree_39 (by decide) ?_
          refine gp_iinc 1 X dX3_isPathFree_60 rfl (by decide) (fun x60 e60 => ?_)
          refine GJ.leq (lv' := [(5, .int x60), (6, .null), (4, .int 4), (3, .ref (ad 11 r 0)), (2, .int x2), (1, .ref (ad 5 r i)), (0, .ref (ad 3 r 0))]) rfl ?_
          refine g_goto 24 X dX3_isPathFree_63 (by decide) ?_
          refine GJ.pick [0, 2, 3, 4, 5, 6] rfl ?_
          exact ih (k + 1) x60 x2 (by omega) (by rw [e60, hk]; exact nI_1 k) h2 (by
            rw [← hf, fPFA, if_neg ?_]
            intro hh
            first
            | exact h34 hh.1
            | exact hh.2.1 (hR.2 _ _ _ _ _ _ hl34 hlT c45).2.2
            | exact hh.2.2 (by rw [← h2, ← e50, ← e54]; exact c55))
  refine g_aload_n X dX3_isPathFree_0 rfl ?_
  refine gp_get (j := 3) (v := .ref (ad 4 r 0)) X hR hl cl_X3 lk_X3_12 rfl (by decide) rfl rfl dX3_isPathFree_1 ?_
  refine g_aload_n X dX3_isPathFree_4 rfl ?_
  refine gp_geti (j := 3) X hR hlT cl_X5 lk_X3_56 rfl (by decide) rfl rfl dX3_isPathFree_5 (fun x5 e5 => ?_)
  refine gp_V X RM lm_X3_129 (c_X4_pathBehind G hR hl hB (e5.trans hb) hbn) cl_X4 hR hl rfl rfl rfl (Nat.le_of_ble_eq_true rfl) (by decide) (by decide) dX3_isPathFree_8 (fun v hz q => ?_) (fun _ _ q => q.elim)
  obtain ⟨x8, rfl, e8, rfl⟩ := q
  refine GJ.seq (st' := [.int x8]) rfl ?_
  refine g_istore_n (lv' := [(2, .int x8), (0, .ref (ad 3 r 0)), (1, .ref (ad 5 r i))]) X dX3_isPathFree_11 (by decide) rfl ?_
  refine g_aload_n X dX3_isPathFree_12 rfl ?_
  refine gp_get (j := 4) (v := .ref (ad 11 r 0)) X hR hl cl_X3 lk_X3_20 rfl (by decide) rfl rfl dX3_isPathFree_13 ?_
  refine g_astore_n (lv' := [(3, .ref (ad 11 r 0)), (2, .int x8), (0, .ref (ad 3 r 0)), (1, .ref (ad 5 r i))]) X dX3_isPathFree_16 (by decide) rfl ?_
  refine g_aload_n X dX3_isPathFree_17 rfl ?_
  refine gp_alen (v := 4) X hR hl G.t4 rfl rfl dX3_isPathFree_18 ?_
  refine g_istore (lv' := [(4, .int 4), (3, .ref (ad 11 r 0)), (2, .int x8), (0, .ref (ad 3 r 0)), (1, .ref (ad 5 r i))]) X dX3_isPathFree_19 (by decide) rfl ?_
  refine g_iconst (v := 0) X dX3_isPathFree_21 (by decide) ?_
  refine g_istore (lv' := [(5, .int 0), (4, .int 4), (3, .ref (ad 11 r 0)), (2, .int x8), (0, .ref (ad 3 r 0)), (1, .ref (ad 5 r i))]) X dX3_isPathFree_22 (by decide) rfl ?_
  refine GJ.pick [0, 1, 2, 3, 5, 4] rfl ?_
  exact L 4 0 0 x8 rfl rfl e8 rfl
set_option maxHeartbeats 4000000 in
set_option maxRecDepth 100000 in
theorem c_X3_whatKeepsInStop {Z : gEnv} {ad : gAd} {P : gP} {h : gH} (G : gG Z) (hR : gRep Z ad P h) {r : Nat} (hl : gLive P 3 r 0) (hB : pnB P r ≤ 12) (hC : gChrs P r) {i b : Nat} (hi : i < pnT P r) (hb : pI P 5 r i 3 = nI b) (hbn : b < pnB P r) {w : Int32} : gMet Z yX3_whatKeepsInStop cX3_whatKeepsInStop 3 ((Option.some FieldType.char)) 5 0 0 [.ref (ad 3 r 0), .ref (ad 5 r i), .int w] h (qI h (fun y => y = fKS P r i b w)) (qN) := by
  refine g_enter (lv := [(0, .ref (ad 3 r 0)), (1, .ref (ad 5 r i)), (2, .int w)]) G.2 (by decide +kernel) (Nat.le_of_ble_eq_true rfl) rfl (fun Γ X Nt E RM => ?_)
  have hlT : gLive P 5 r i := ⟨hl.1, hi⟩
  refine g_aload_n X dX3_whatKeepsInStop_0 rfl ?_
  refine gp_geti (j := 14) X hR hl cl_X3 lk_X3_100 rfl (by decide) rfl rfl dX3_whatKeepsInStop_1 (fun x1 e1 => ?_)
  refine g_if_eq 10 X dX3_whatKeepsInStop_4 (by decide) (fun c4 => ?_) (fun c4 => ?_)
  · skip
    refine g_aload_n X dX3_whatKeepsInStop_10 rfl ?_
    refine gp_geti (j := 13) X hR hl cl_X3 lk_X3_53 rfl (by decide) rfl rfl dX3_whatKeepsInStop_11 (fun x11 e11 => ?_)
    refine g_if_eq 20 X dX3_whatKeepsInStop_14 (by decide) (fun c14 => ?_) (fun c14 => ?_)
    · skip
      refine g_aload_n X dX3_whatKeepsInStop_20 rfl ?_
      refine gp_get (j := 3) (v := .ref (ad 4 r 0)) X hR hl cl_X3 lk_X3_12 rfl (by decide) rfl rfl dX3_whatKeepsInStop_21 ?_
      refine g_aload_n X dX3_whatKeepsInStop_24 rfl ?_
      refine gp_geti (j := 3) X hR hlT cl_X5 lk_X3_56 rfl (by decide) rfl rfl dX3_whatKeepsInStop_25 (fun x25 e25 => ?_)
      refine g_iload_n X dX3_whatKeepsInStop_28 rfl ?_
      refine gp_V X RM lm_X3_121 (c_X4_isRunBad G hR hl hB (e25.trans hb) hbn) cl_X4 hR hl rfl rfl rfl (Nat.le_of_ble_eq_true rfl) (by decide) (by decide) dX3_whatKeepsInStop_29 (fun v hz q => ?_) (fun _ _ q => q.elim)
      obtain ⟨x29, rfl, e29, rfl⟩ := q
      refine GJ.seq (st' := [.int x29]) rfl ?_
      refine g_if_eq 38 X dX3_whatKeepsInStop_32 (by decide) (fun c32 => ?_) (fun c32 => ?_)
      · skip
        refine g_aload_n X dX3_whatKeepsInStop_38 rfl ?_
        refine g_aload_n X dX3_whatKeepsInStop_39 rfl ?_
        refine gp_V X RM lm_X3_125 (c_X3_isPathFree G hR hl hB hC hi hb hbn) cl_X3 hR hl rfl rfl rfl (Nat.le_of_ble_eq_true rfl) (by decide) (by decide) dX3_whatKeepsInStop_40 (fun v hz q => ?_) (fun _ _ q => q.elim)
        obtain ⟨x40, rfl, e40, rfl⟩ := q
        refine GJ.seq (st' := [.int x40]) rfl ?_
        refine g_if_eq 51 X dX3_whatKeepsInStop_43 (by decide) (fun c43 => ?_) (fun c43 => ?_)
        · skip
          refine g_bipush (v := 114) X dX3_whatKeepsInStop_51 (by decide) ?_
          refine g_ireturn X E (by decide) dX3_whatKeepsInStop_53 (by decide) (by decide) ?_
          refine ⟨_, rfl, ?_, rfl⟩
          subst_vars
          simp_all [fKS, bz]
        · skip
          refine g_bipush (v := 46) X dX3_whatKeepsInStop_46 (by decide) ?_
          refine g_goto 53 X dX3_whatKeepsInStop_48 (by decide) ?_
          refine g_ireturn X E (by decide) dX3_whatKeepsInStop_53 (by decide) (by decide) ?_
          refine ⟨_, rfl, ?_, rfl⟩
          subst_vars
          simp_all [fKS, bz]
      · skip
        refine g_bipush (v := 102) X dX3_whatKeepsInStop_35 (by decide) ?_
        refine g_ireturn X E (by decide) dX3_whatKeepsInStop_37 (by decide) (by decide) ?_
        refine ⟨_, rfl, ?_, rfl⟩
        subst_vars
        simp_all [fKS, bz]
    · skip
      refine g_bipush (v := 108) X dX3_whatKeepsInStop_17 (by decide) ?_
      refine g_ireturn X E (by decide) dX3_whatKeepsInStop_19 (by decide) (by decide) ?_
      refine ⟨_, rfl, ?_, rfl⟩
      subst_vars
      simp_all [fKS, bz]
  · skip
    refine g_bipush (v := 101) X dX3_whatKeepsInStop_7 (by decide) ?_
    refine g_ireturn X E (by decide) dX3_whatKeepsInStop_9 (by decide) (by decide) ?_
    refine ⟨_, rfl, ?_, rfl⟩
    subst_vars
    simp_all [fKS, bz]
theorem fSt_none_of {P : gP} {r : Nat} (h : fSt P r = none) (w lt : Int32) : fKSt P r w lt = 110 := by
  unfold fKSt
  rw [h]
  split <;> rfl
theorem fSt_of {P : gP} {r i : Nat} (h : fSt P r = some i) (w lt : Int32) : fKSt P r w lt = if pI P 4 r 0 2 = 0 then 110 else if pI P 3 r 0 9 = -1 then 111 else if pI P 3 r 0 10 = 0 ∨ ¬ pI P 3 r 0 11 < 50 then 105 else if pI P 3 r 0 1 < w ∨ ¬ lt = 0 then 119 else fKS P r i 0 w := by
  unfold fKSt
  rw [h]
set_option maxHeartbeats 4000000 in
set_option maxRecDepth 100000 in
theorem c_X3_whatKeepsInStation {Z : gEnv} {ad : gAd} {P : gP} {h : gH} (G : gG Z) (hR : gRep Z ad P h) {r : Nat} (hl : gLive P 3 r 0) (hB : pnB P r ≤ 12) (hC : gChrs P r) (hcl : ¬ pI P 4 r 0 2 = 0 → 0 < pnB P r) {w lt : Int32} : gMet Z yX3_whatKeepsInStation cX3_whatKeepsInStation 4 ((Option.some FieldType.char)) 6 0 0 [.ref (ad 3 r 0), .int w, .int lt] h (qI h (fun y => y = fKSt P r w lt)) (qN) := by
  refine g_enter (lv := [(0, .ref (ad 3 r 0)), (1, .int w), (2, .int lt)]) G.2 (by decide +kernel) (Nat.le_of_ble_eq_true rfl) rfl (fun Γ X Nt E RM => ?_)
  refine g_aload_n X dX3_whatKeepsInStation_0 rfl ?_
  refine gp_V X RM lm_X3_104 (c_X3_trainInStation G hR hl) cl_X3 hR hl rfl rfl rfl (Nat.le_of_ble_eq_true rfl) (by decide) (by decide) dX3_whatKeepsInStation_1 (fun v hz q => ?_) (fun _ _ q => q.elim)
  obtain ⟨w1, rfl, e1, rfl⟩ := q
  rcases hf1 : fSt P r with _ | i1
  · skip
    rw [hf1] at e1
    subst e1
    refine GJ.seq (st' := [.null]) rfl ?_
    refine g_astore_nN (lv' := [(3, .null), (0, .ref (ad 3 r 0)), (1, .int w), (2, .int lt)]) X dX3_whatKeepsInStation_4 (by decide) rfl ?_
    refine g_aload_n X dX3_whatKeepsInStation_5 rfl ?_
    refine gp_get (j := 3) (v := .ref (ad 4 r 0)) X hR hl cl_X3 lk_X3_12 rfl (by decide) rfl rfl dX3_whatKeepsInStation_6 ?_
    refine gp_geti (j := 2) X hR hl cl_X4 lk_X3_108 rfl (by decide) rfl rfl dX3_whatKeepsInStation_9 (fun x9 e9 => ?_)
    refine g_if_eq 19 X dX3_whatKeepsInStation_12 (by decide) (fun c12 => ?_) (fun c12 => ?_)
    · skip
      refine g_bipush (v := 110) X dX3_whatKeepsInStation_19 (by decide) ?_
      refine g_ireturn X E (by decide) dX3_whatKeepsInStation_21 (by decide) (by decide) ?_
      refine ⟨_, rfl, ?_, rfl⟩
      first | rw [fSt_none_of hf1] | rw [fSt_of hf1]
      all_goals (subst_vars; simp_all [-Int32.not_lt])
    · skip
      refine g_aload_nN X dX3_whatKeepsInStation_15 rfl ?_
      refine g_ifnonnullN X dX3_whatKeepsInStation_16 ?_
      refine g_bipush (v := 110) X dX3_whatKeepsInStation_19 (by decide) ?_
      refine g_ireturn X E (by decide) dX3_whatKeepsInStation_21 (by decide) (by decide) ?_
      refine ⟨_, rfl, ?_, rfl⟩
      first | rw [fSt_none_of hf1] | rw [fSt_of hf1]
      all_goals (subst_vars; simp_all [-Int32.not_lt])
  · skip
    rw [hf1] at e1
    subst e1
    have hl1 : gLive P 5 r i1 := ⟨(hl).1, (fSt_some hf1).1⟩
    refine GJ.seq (st' := [.ref (ad 5 r i1)]) rfl ?_
    refine g_astore_n (lv' := [(3, .ref (ad 5 r i1)), (0, .ref (ad 3 r 0)), (1, .int w), (2, .int lt)]) X dX3_whatKeepsInStation_4 (by decide) rfl ?_
    refine g_aload_n X dX3_whatKeepsInStation_5 rfl ?_
    refine gp_get (j := 3) (v := .ref (ad 4 r 0)) X hR hl cl_X3 lk_X3_12 rfl (by decide) rfl rfl dX3_whatKeepsInStation_6 ?_
    refine gp_geti (j := 2) X hR hl cl_X4 lk_X3_108 rfl (by decide) rfl rfl dX3_whatKeepsInStation_9 (fun x9 e9 => ?_)
    refine g_if_eq 19 X dX3_whatKeepsInStation_12 (by decide) (fun c12 => ?_) (fun c12 => ?_)
    · skip
      refine g_bipush (v := 110) X dX3_whatKeepsInStation_19 (by decide) ?_
      refine g_ireturn X E (by decide) dX3_whatKeepsInStation_21 (by decide) (by decide) ?_
      refine ⟨_, rfl, ?_, rfl⟩
      first | rw [fSt_none_of hf1] | rw [fSt_of hf1]
      all_goals (subst_vars; simp_all [-Int32.not_lt])
    · skip
      refine g_aload_n X dX3_whatKeepsInStation_15 rfl ?_
      refine g_ifnonnull 22 X dX3_whatKeepsInStation_16 (by decide) ?_
      refine g_aload_n X dX3_whatKeepsInStation_22 rfl ?_
      refine gp_geti (j := 9) X hR hl cl_X3 lk_X3_37 rfl (by decide) rfl rfl dX3_whatKeepsInStation_23 (fun x23 e23 => ?_)
      refine g_iconst (v := (-1)) X dX3_whatKeepsInStation_26 (by decide) ?_
      refine g_icmp_ne 33 X dX3_whatKeepsInStation_27 (by decide) (fun c27 => ?_) (fun c27 => ?_)
      · skip
        refine g_aload_n X dX3_whatKeepsInStation_33 rfl ?_
        refine gp_geti (j := 10) X hR hl cl_X3 lk_X3_111 rfl (by decide) rfl rfl dX3_whatKeepsInStation_34 (fun x34 e34 => ?_)
        refine g_if_eq 49 X dX3_whatKeepsInStation_37 (by decide) (fun c37 => ?_) (fun c37 => ?_)
        · skip
          refine g_bipush (v := 105) X dX3_whatKeepsInStation_49 (by decide) ?_
          refine g_ireturn X E (by decide) dX3_whatKeepsInStation_51 (by decide) (by decide) ?_
          refine ⟨_, rfl, ?_, rfl⟩
          first | rw [fSt_none_of hf1] | rw [fSt_of hf1]
          all_goals (subst_vars; simp_all [-Int32.not_lt])
        · skip
          refine g_aload_n X dX3_whatKeepsInStation_40 rfl ?_
          refine gp_geti (j := 11) X hR hl cl_X3 lk_X3_114 rfl (by decide) rfl rfl dX3_whatKeepsInStation_41 (fun x41 e41 => ?_)
          refine g_bipush (v := 50) X dX3_whatKeepsInStation_44 (by decide) ?_
          refine g_icmp_lt 52 X dX3_whatKeepsInStation_46 (by decide) (fun c46 => ?_) (fun c46 => ?_)
          · skip
            refine g_iload_n X dX3_whatKeepsInStation_52 rfl ?_
            refine g_aload_n X dX3_whatKeepsInStation_53 rfl ?_
            refine gp_geti (j := 1) X hR hl cl_X3 lk_X3_44 rfl (by decide) rfl rfl dX3_whatKeepsInStation_54 (fun x54 e54 => ?_)
            refine g_icmp_gt 64 X dX3_whatKeepsInStation_57 (by decide) (fun c57 => ?_) (fun c57 => ?_)
            · skip
              refine g_bipush (v := 119) X dX3_whatKeepsInStation_64 (by decide) ?_
              refine g_ireturn X E (by decide) dX3_whatKeepsInStation_66 (by decide) (by decide) ?_
              refine ⟨_, rfl, ?_, rfl⟩
              first | rw [fSt_none_of hf1] | rw [fSt_of hf1]
              all_goals (subst_vars; simp_all [-Int32.not_lt])
            · skip
              refine g_iload_n X dX3_whatKeepsInStation_60 rfl ?_
              refine g_if_eq 67 X dX3_whatKeepsInStation_61 (by decide) (fun c61 => ?_) (fun c61 => ?_)
              · skip
                have hb0 : 0 < pnB P r := hcl (by rw [← e9]; exact c12)
                refine g_aload_n X dX3_whatKeepsInStation_67 rfl ?_
                refine g_aload_n X dX3_whatKeepsInStation_68 rfl ?_
                refine g_iload_n X dX3_whatKeepsInStation_69 rfl ?_
                refine gp_V X RM lm_X3_117 (c_X3_whatKeepsInStop G hR hl hB hC (fSt_some hf1).1 (show pI P 5 r i1 3 = nI 0 from (fSt_some hf1).2.1) hb0) cl_X3 hR hl rfl rfl rfl (Nat.le_of_ble_eq_true rfl) (by decide) (by decide) dX3_whatKeepsInStation_70 (fun v hz q => ?_) (fun _ _ q => q.elim)
                obtain ⟨x70, rfl, e70, rfl⟩ := q
                refine GJ.seq (st' := [.int x70]) rfl ?_
                refine g_ireturn X E (by rw [e70]; exact fKS_chr _ _ _ _ _) dX3_whatKeepsInStation_73 (by decide) (by decide) ?_
                refine ⟨_, rfl, ?_, rfl⟩
                first | rw [fSt_none_of hf1] | rw [fSt_of hf1]
                all_goals (subst_vars; simp_all [-Int32.not_lt])
              · skip
                refine g_bipush (v := 119) X dX3_whatKeepsInStation_64 (by decide) ?_
                refine g_ireturn X E (by decide) dX3_whatKeepsInStation_66 (by decide) (by decide) ?_
                refine ⟨_, rfl, ?_, rfl⟩
                first | rw [fSt_none_of hf1] | rw [fSt_of hf1]
                all_goals (subst_vars; simp_all [-Int32.not_lt])
          · skip
            refine g_bipush (v := 105) X dX3_whatKeepsInStation_49 (by decide) ?_
            refine g_ireturn X E (by decide) dX3_whatKeepsInStation_51 (by decide) (by decide) ?_
            refine ⟨_, rfl, ?_, rfl⟩
            first | rw [fSt_none_of hf1] | rw [fSt_of hf1]
            all_goals (subst_vars; simp_all [-Int32.not_lt])
      · skip
        refine g_bipush (v := 111) X dX3_whatKeepsInStation_30 (by decide) ?_
        refine g_ireturn X E (by decide) dX3_whatKeepsInStation_32 (by decide) (by decide) ?_
        refine ⟨_, rfl, ?_, rfl⟩
        first | rw [fSt_none_of hf1] | rw [fSt_of hf1]
        all_goals (subst_vars; simp_all [-Int32.not_lt])
set_option maxHeartbeats 4000000 in
set_option maxRecDepth 100000 in
theorem c_X3_sendOff {Z : gEnv} {ad : gAd} {P : gP} {h : gH} (G : gG Z) (hR : gRep Z ad P h) {r : Nat} (hl : gLive P 3 r 0) (hB : pnB P r ≤ 12) {i b : Nat} (hi : i < pnT P r) (hb : pI P 5 r i 3 = nI b) (hbn : b < pnB P r) : gMet Z yX3_sendOff cX3_sendOff 2 ((Option.none : Option FieldType)) 5 0 0 [.ref (ad 3 r 0), .ref (ad 5 r i)] h (qM (fun h2 => ∃ P2, gRep Z ad P2 h2 ∧ P2 = fSend P r i b)) (qN) := by
  refine g_enter (lv := [(0, .ref (ad 3 r 0)), (1, .ref (ad 5 r i))]) G.2 (by decide +kernel) (Nat.le_of_ble_eq_true rfl) rfl (fun Γ X Nt E RM => ?_)
  have hlT : gLive P 5 r i := ⟨hl.1, hi⟩
  refine g_aload_n X dX3_sendOff_0 rfl ?_
  refine g_aload_n X dX3_sendOff_1 rfl ?_
  refine gp_get (j := 3) (v := .ref (ad 4 r 0)) X hR hl cl_X3 lk_X3_12 rfl (by decide) rfl rfl dX3_sendOff_2 ?_
  refine g_aload_n X dX3_sendOff_5 rfl ?_
  refine gp_geti (j := 3) X hR hlT cl_X5 lk_X3_56 rfl (by decide) rfl rfl dX3_sendOff_6 (fun x6 e6 => ?_)
  refine gp_V X RM lm_X3_129 (c_X4_pathBehind G hR hl hB (e6.trans hb) hbn) cl_X4 hR hl rfl rfl rfl (Nat.le_of_ble_eq_true rfl) (by decide) (by decide) dX3_sendOff_9 (fun v hz q => ?_) (fun _ _ q => q.elim)
  obtain ⟨x9, rfl, e9, rfl⟩ := q
  refine GJ.seq (st' := [.int x9, .ref (ad 5 r i)]) rfl ?_
  refine gp_V X RM lm_X3_135 (c_X5_leaveStop G hR hlT) cl_X5 hR hlT rfl rfl rfl (Nat.le_of_ble_eq_true rfl) (by decide) (by decide) dX3_sendOff_12 (fun v hz q => ?_) (fun _ _ q => q.elim)
  obtain ⟨rfl, _, hR, rfl⟩ := q
  refine GJ.seq (st' := []) rfl ?_
  have hl3 : gLive (fGo P r i x9) 3 r 0 := by rw [gLive_2 fGo_2]; exact hl
  refine g_aload_n X dX3_sendOff_15 rfl ?_
  refine g_dup X dX3_sendOff_16 rfl ?_
  refine gp_geti (j := 12) X hR hl3 cl_X3 lk_X3_139 rfl (by decide) rfl rfl dX3_sendOff_17 (fun x17 e17 => ?_)
  refine g_iconst (v := 1) X dX3_sendOff_20 (by decide) ?_
  refine g_iadd X dX3_sendOff_21 (fun x21 e21 => ?_)
  refine gp_puti (j := 12) X hR hl3 cl_X3 lk_X3_139 rfl (by decide) rfl (by decide) rfl rfl rfl dX3_sendOff_22 (fun h hR => ?_)
  refine g_aload_n X dX3_sendOff_25 rfl ?_
  refine g_dup X dX3_sendOff_26 rfl ?_
  refine gp_geti (j := 11) X hR hl3 cl_X3 lk_X3_114 rfl (by decide) rfl rfl dX3_sendOff_27 (fun x27 e27 => ?_)
  refine g_iconst (v := 1) X dX3_sendOff_30 (by decide) ?_
  refine g_iadd X dX3_sendOff_31 (fun x31 e31 => ?_)
  refine gp_puti (j := 11) X hR hl3 cl_X3 lk_X3_114 rfl (by decide) rfl (by decide) rfl rfl rfl dX3_sendOff_32 (fun h hR => ?_)
  refine g_return X E dX3_sendOff_35 (by decide) (by decide) ?_
  refine ⟨rfl, _, hR, ?_⟩
  subst_vars
  simp [fSend, pI_uI, pI_fGo]
end GRIDE2
