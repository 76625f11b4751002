/-! dispatching, as the law looks at it -/
section GDISP
variable {Z : gEnv} {h : gH} {B O : Int64} {t : Int32} {a : Nat} {P : gP}
theorem Ln.seat {Q : gP} {r q i g r' q' : Nat} {l l' tt : List Nat} (h : Ln Q r' q' l) (hn : ¬ (r' = r ∧ q' = q)) : Ln (fSeat (sLn Q r q l') r i tt g) r' q' l := by
  obtain ⟨a1, a2, a3, a4⟩ := h
  have hn' : ¬ (r' = r ∧ q' = q ∧ 1 = 1) := fun e => hn ⟨e.1, e.2.1⟩
  refine ⟨?_, fun j => ?_, a3, a4⟩
  · rw [← a1]
    simp [fSeat, fAboard, pI_uI, pI_uGL, pI_sTr, pI_sLn, hn]
  · rw [← a2]
    show pPL (sLn Q r q l') r' q' j = _
    rw [pPL_sLn, if_neg hn]
theorem Ln.seatS {Q : gP} {r q i g : Nat} {l l' tt : List Nat} (h : Ln Q r q l) (hl : l'.length ≤ 60) (hg : ∀ x ∈ l', x < pnG Q) : Ln (fSeat (sLn Q r q l') r i tt g) r q l' := by
  refine ⟨?_, fun j => ?_, hl, hg⟩
  · simp [fSeat, fAboard, pI_uI, pI_uGL, pI_sTr, pI_sLn]
  · show pPL (sLn Q r q l') r q j = _
    rw [pPL_sLn, if_pos ⟨rfl, rfl⟩]
theorem tr_seatS {Q : gP} {r q i g : Nat} {l' tt : List Nat} (h : Tr Q r i tt) (hl : tt.length < 8) (hg : g < pnG Q) : Tr (fSeat (sLn Q r q l') r i tt g) r i (tt ++ [g]) := by
  obtain ⟨a1, a2, a3, a4⟩ := h
  refine ⟨?_, fun j => ?_, by simp; omega, fun x hx => ?_⟩
  · simp [fSeat, fAboard, pI_uI, pI_uGL, pI_sTr, pI_sLn]
  · show pRD (sTr (sLn Q r q l') r i (tt ++ [g])) r i j = _
    rw [pRD_sTr, if_pos ⟨rfl, rfl⟩]
  · rcases List.mem_append.mp hx with hx | hx
    · exact a4 x hx
    · rw [List.mem_singleton.mp hx]; exact hg
/-- what boarding keeps -/
def dJ (B O : Int64) (t : Int32) (P0 : gP) (r i N : Nat) (c : Int32) (Q : gP) : Prop := LJ B O t Q ∧ pnT Q r = pnT P0 r ∧ (∀ j s, s ≠ 2 → pI Q 5 r j s = pI P0 5 r j s) ∧ pI Q 3 r 0 12 = c ∧ ∃ l0 l1 l2 tt, Ln Q r 0 l0 ∧ Ln Q r 1 l1 ∧ Ln Q r 2 l2 ∧ Tr Q r i tt ∧ l0.length + l1.length + l2.length + tt.length = N
theorem dJ.step {P0 : gP} {r i N : Nat} {c : Int32} (hr : r < 2) (hi : i < pnT P0 r) (hs : pI P0 5 r i 5 = 109) : bdStep (dJ B O t P0 r i N c) r i := by
  intro Q q l tt g idx hQ hq hL hx hT ht
  obtain ⟨hJ, hnT, h5, h3, l0, l1, l2, t0, hL0, hL1, hL2, hT0, hN⟩ := hQ
  have htt : t0 = tt := hT0.len hT
  subst htt
  have hr' := hJ.r hr
  have hI := hJ.inv.seat hr' (by rw [hnT]; exact hi) hq (by rw [h5 _ _ (by decide)]; exact hs) hL hx hT ht
  have hmem : g ∈ l := List.mem_of_getElem? hx
  have hg : g < pnG Q := hL.2.2.2 g hmem
  obtain ⟨hidx, -⟩ := List.getElem?_eq_some_iff.mp hx
  have hle : (l.eraseIdx idx).length + 1 = l.length := by
    rw [List.length_eraseIdx, if_pos hidx]
    omega
  have hlen : (l.eraseIdx idx).length ≤ 60 := by have := hL.2.2.1; omega
  have hall : ∀ x ∈ l.eraseIdx idx, x < pnG Q := fun x hx => hL.2.2.2 x (List.mem_of_mem_eraseIdx hx)
  have hS : Ln (fSeat (sLn Q r q (l.eraseIdx idx)) r i t0 g) r q (l.eraseIdx idx) := hL.seatS hlen hall
  have hTS : Tr (fSeat (sLn Q r q (l.eraseIdx idx)) r i t0 g) r i (t0 ++ [g]) := tr_seatS hT ht hg
  refine ⟨hJ.of hI (eqK.sLn.trans eqK.seat), hnT, fun j s hs => ?_, ?_, ?_⟩
  · rw [← h5 j s hs]
    simp [fSeat, fAboard, pI_uI, pI_uGL, pI_sTr, pI_sLn, hs]
  · rw [← h3]
    simp [fSeat, fAboard, pI_uI, pI_uGL, pI_sTr, pI_sLn]
  · rcases (show q = 0 ∨ q = 1 ∨ q = 2 by omega) with rfl | rfl | rfl
    · have e := hL0.len hL
      subst e
      exact ⟨_, l1, l2, _, hS, hL1.seat (by omega), hL2.seat (by omega), hTS, by simp; omega⟩
    · have e := hL1.len hL
      subst e
      exact ⟨l0, _, l2, _, hL0.seat (by omega), hS, hL2.seat (by omega), hTS, by simp; omega⟩
    · have e := hL2.len hL
      subst e
      exact ⟨l0, l1, _, _, hL0.seat (by omega), hL1.seat (by omega), hS, hTS, by simp; omega⟩
theorem dJ.pre {P0 Q : gP} {r i N : Nat} {c : Int32} (hr : r < 2) (hi : i < pnT P0 r) (h : dJ B O t P0 r i N c Q) : bdPre Q r i 14 := by
  obtain ⟨hJ, hnT, h5, h3, l0, l1, l2, t0, hL0, hL1, hL2, hT0, hN⟩ := h
  have hr' := hJ.r hr
  obtain ⟨-, -, -, ⟨s, -, hs8, hs⟩, -⟩ := (hJ.inv.1.2 r hr').2.2.2.2.1 i (by rw [hnT]; exact hi)
  refine ⟨⟨hr', rfl⟩, ⟨hr', by rw [hnT]; exact hi⟩, hJ.2.1.2.1, ⟨s, hs8, hs⟩, ⟨_, hT0⟩, fun q hq => ?_⟩
  rcases (show q = 0 ∨ q = 1 ∨ q = 2 by omega) with rfl | rfl | rfl
  · exact ⟨_, hL0⟩
  · exact ⟨_, hL1⟩
  · exact ⟨_, hL2⟩
theorem fKSt_46 {P : gP} {r : Nat} {w lt : Int32} (h : fKSt P r w lt = 46) : ∃ i, fSt P r = some i ∧ fKS P r i 0 w = 46 := by
  cases hs : fSt P r with
  | none => rw [fSt_none_of hs] at h; exact absurd h (by decide)
  | some i =>
    rw [fSt_of hs] at h
    refine ⟨i, rfl, ?_⟩
    split at h
    · exact absurd h (by decide)
    · split at h
      · exact absurd h (by decide)
      · split at h
        · exact absurd h (by decide)
        · split at h
          · exact absurd h (by decide)
          · exact h
/-- a train that is kept does not go -/
theorem a_13_no (G : gG Z) (hL : LR Z a P h) (hJ : LJ B O t P) {x z : Int32} {r : Nat} (hx : x = nI r) (hr : r < 2) (hk : ¬ fKp P r = 46) : gMet Z yL_ask cL_ask 4 (some .int) 10 1 6 [.ref a, .int 13, .int x, .int z] h (qI h (fun y => y = -2004)) qN := by
  obtain ⟨ad, rfl, hR⟩ := hL
  obtain ⟨fs, hb⟩ := hR.box
  refine ask_D G (by decide) (fun _ _ q => q.elim) (hxR (fun E q => q)) (fun v h2 q => ?_) (c_L_done_13 G hb (fun _ _ q => q.elim) (c_X6_dispatch_no G hR hJ.inv.wf hx (hJ.r hr) hk))
  rcases q with q | ⟨E, ⟨hE, rfl⟩, rfl⟩
  · exact q.elim
  · exact ⟨_, rfl, by rw [hE]; exact code_REF, rfl⟩
/-- one that goes takes those who come aboard -/
theorem a_13 (G : gG Z) (hL : LR Z a P h) (hJ : LJ B O t P) {x z : Int32} {r : Nat} (hx : x = nI r) (hr : r < 2) (hk : fKp P r = 46) : gMet Z yL_ask cL_ask 4 (some .int) 10 0 0 [.ref a, .int 13, .int x, .int z] h (qP Z a (fun y P2 => LJ B O t P2 ∧ pI P2 3 r 0 12 = pI P 3 r 0 12 + 1 ∧ fKp P2 r = 110 ∧ ¬ y < 0 ∧ pI P2 2 r 0 1 + pI P2 2 r 1 1 + pI P2 2 r 2 1 = pI P 2 r 0 1 + pI P 2 r 1 1 + pI P 2 r 2 1 - y)) qN := by
  obtain ⟨ad, rfl, hR⟩ := hL
  obtain ⟨fs, hb⟩ := hR.box
  have hr' := hJ.r hr
  obtain ⟨i, hst, hks⟩ := fKSt_46 hk
  obtain ⟨hi, hb0, h115, -⟩ := fSt_some hst
  have hRd := hJ.inv.1.2 r hr'
  obtain ⟨b, hbn, hbb, -, hcase⟩ := hRd.2.2.2.2.1 i hi
  have hbz : b = 0 := (nI0_iff (by have := hRd.1.1; omega)).mp (hbb.symm.trans hb0)
  subst hbz
  have hzero : pI P 5 r i 2 = 0 := by
    rcases hcase with hc | ⟨hc, -⟩
    · exact hc.2.2.2.2 rfl
    · rcases hc with e | e <;> exact absurd (h115.symm.trans e) (by decide)
  obtain ⟨l0, hL0⟩ := hJ.inv.wf.ln hr' (q := 0) (by decide)
  obtain ⟨l1, hL1⟩ := hJ.inv.wf.ln hr' (q := 1) (by decide)
  obtain ⟨l2, hL2⟩ := hJ.inv.wf.ln hr' (q := 2) (by decide)
  obtain ⟨tt, hTT⟩ := hJ.inv.wf.tr hr' hi
  have htt0 : tt.length = 0 := (nI_eq (b := 0) (by have := hTT.2.2.1; omega) (by omega)).mp (hTT.1.symm.trans hzero)
  have hI := ((hJ.inv.go hr' hi hbb hbn h115 hks).kI (k := 3) (r := r) (i := 0) (s := 12) (v := pI P 3 r 0 12 + 1) (by decide)).kI (k := 3) (r := r) (i := 0) (s := 11) (v := pI P 3 r 0 11 + 1) (by decide)
  have hs5 : ∀ j s, pI (fSend P r i 0) 5 r j s = pI (fGo P r i (fPath P r (pnB P r) 0 0)) 5 r j s := fun j s => by unfold fSend; rw [pI_uk (by decide), pI_uk (by decide)]
  have hT5 : ∀ j, j ≠ i → ∀ s, pI (fSend P r i 0) 5 r j s = pI P 5 r j s := fun j hj s => by rw [hs5, pI_go, if_neg (fun e => hj e.2)]
  have hs109 : pI (fSend P r i 0) 5 r i 5 = 109 := by rw [hs5, pI_go, if_pos ⟨rfl, rfl⟩]; rfl
  have hs3 : pI (fSend P r i 0) 5 r i 3 = 0 := by rw [hs5, pI_go, if_pos ⟨rfl, rfl⟩]; exact hb0
  have hs2 : pI (fSend P r i 0) 5 r i 2 = 0 := by rw [hs5, pI_go, if_pos ⟨rfl, rfl⟩]; exact hzero
  have hGo2 : (fGo P r i (fPath P r (pnB P r) 0 0)).2 = P.2 := fGo_2
  have hnT : pnT (fSend P r i 0) r = pnT P r := congrArg (fun x => x.2.2.2.2.2.2.2.1 r) hGo2
  have hLs : ∀ q l, Ln P r q l → Ln (fSend P r i 0) r q l := fun q l hl => by
    obtain ⟨a1, a2, a3, a4⟩ := hl
    refine ⟨?_, fun j => ?_, a3, fun g hg => ?_⟩
    · unfold fSend; rw [pI_uk (by decide), pI_uk (by decide), pI_fGo (by decide)]; exact a1
    · rw [← a2 j]; exact congrArg (fun x => x.2.2.1 r q j) hGo2
    · have : pnG (fSend P r i 0) = pnG P := congrArg (fun x => x.2.2.2.2.2.1) hGo2
      rw [this]; exact a4 g hg
  have hTs : Tr (fSend P r i 0) r i tt := by
    obtain ⟨a1, a2, a3, a4⟩ := hTT
    refine ⟨?_, fun j => ?_, a3, fun g hg => ?_⟩
    · rw [hs2, htt0]; rfl
    · rw [← a2 j]; exact congrArg (fun x => x.2.1 r i j) hGo2
    · have : pnG (fSend P r i 0) = pnG P := congrArg (fun x => x.2.2.2.2.2.1) hGo2
      rw [this]; exact a4 g hg
  have hj0 : dJ B O t (fSend P r i 0) r i (l0.length + l1.length + l2.length) (pI P 3 r 0 12 + 1) (fSend P r i 0) := by
    refine ⟨hJ.of hI ((eqK.go.trans (eqK.uI (by decide))).trans (eqK.uI (by decide))), rfl, fun _ _ _ => rfl, ?_, l0, l1, l2, tt, hLs 0 l0 hL0, hLs 1 l1 hL1, hLs 2 l2 hL2, hTs, by omega⟩
    unfold fSend
    rw [pI_us (by decide), pI_uI, if_pos ⟨rfl, rfl, rfl, rfl⟩]
  have hi' : i < pnT (fSend P r i 0) r := by rw [hnT]; exact hi
  refine ask_D G (by decide) gNum.IM hx_N (fun v h2 q' => ?_) (c_L_done_13 G hb gNum.IM (c_X6_dispatch G hR hJ.inv.wf hx hr' hst hk (dJ B O t (fSend P r i 0) r i (l0.length + l1.length + l2.length) (pI P 3 r 0 12 + 1)) (fun Q hQ => dJ.pre hr hi' hQ) (dJ.step hr hi' hs109) hj0))
  rcases q' with ⟨y, rfl, P2, hR2, ⟨hJ2, hnT2, h52, h32, k0, k1, k2, t2, hK0, hK1, hK2, hT2, hN⟩, hy⟩ | ⟨E, q, -⟩
  · rw [hs2, Int32.sub_zero, hT2.1] at hy
    refine ⟨y, rfl, P2, ⟨ad, rfl, hR2⟩, hJ2, h32, ?_, ?_, ?_⟩
    · have hn : fSt P2 r = none := by
        cases hs : fSt P2 r with
        | none => rfl
        | some j =>
          obtain ⟨hj, hj0, hj5, -⟩ := fSt_some hs
          exfalso
          by_cases e : j = i
          · subst e
            rw [h52 _ _ (by decide), hs109] at hj5
            exact absurd hj5 (by decide)
          · have hi2 : i < pnT P2 r := by rw [hnT2]; exact hi'
            refine hJ2.inv.1.apart (hJ2.r hr) hi2 hj e ?_
            rw [hj0, h52 _ _ (by decide), hs3]
      exact fSt_none_of hn _ _
    · rw [hy]
      exact nI_pos (by have := hT2.2.2.1; omega)
    · have b0 := hL0.2.2.1
      have b1 := hL1.2.2.1
      have b2 := hL2.2.2.1
      rw [hy, hK0.1, hK1.1, hK2.1, hL0.1, hL1.1, hL2.1, nI_add, nI_add, nI_add, nI_add, pk_sub (by omega)]
      congr 1
      omega
  · exact q.elim
end GDISP
