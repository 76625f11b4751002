/-! the law's deeds while it builds -/
section GBUILD1
variable {Z : gEnv} {h : gH} {a : Nat} {P : gP} {R S Gn : Nat}
/-- R rides, S members of staff, Gn guests; no money went out, no tick went by -/
def BI (R S Gn : Nat) (P : gP) : Prop := Inv P ∧ (pnR P = R ∧ pnG P = Gn) ∧ pJ P 12 = 0 ∧ pI P 6 0 0 7 = 0 ∧ pI P 6 0 0 3 = nI S
theorem BI.r (h : BI R S Gn P) {r : Nat} (hr : r < R) : r < pnR P := by rw [h.2.1.1]; exact hr
theorem BI.of {Q : gP} (h : BI R S Gn P) (hI : Inv Q) (e : eqK P Q) (es : pI Q 6 0 0 3 = pI P 6 0 0 3) : BI R S Gn Q := by
  obtain ⟨-, ⟨h1, h2⟩, h4, h5, h6⟩ := h
  obtain ⟨⟨e1, e2, e3⟩, e4, e5, e6⟩ := e
  exact ⟨hI, ⟨e1.trans h1, e2.trans h2⟩, e5.trans h4, e6.trans h5, es.trans h6⟩
theorem b_0 (G : gG Z) (hL : LR Z a P h) (hB : BI R S Gn P) (hR4 : R < 4) {x y z : Int32} {i j k : Nat} (hx : x = nI i) (hi : i ≤ 250) (hy : y = nI j) (hj : j ≤ 40) (hz : z = nI k) (hk : k ≤ 99) : ∃ Q, gNum Q ∧ gMetH Z yL_deed cL_deed 8 (some .int) hhD 5 10 224 [.ref a, .int 0, .int x, .int y, .int z, .int 0, .int 0] h Q qN ∧ ∀ v h2, Q v h2 → qP Z a (fun _ P2 => BI (R + 1) S Gn P2 ∧ pnB P2 R = 0 ∧ pI P2 4 R 0 2 = 0 ∧ ∀ r, r ≠ R → pnB P2 r = pnB P r) v h2 := by
  obtain ⟨ad, rfl, hR⟩ := hL
  obtain ⟨fs, hbx⟩ := hR.box
  have hI := hB.1
  have hGL : ∀ g q, g < pnG P → pGL P g = some q → q.1 < pnR P := fun g q hg hq => by
    obtain ⟨-, LL, RR, m, p, hw⟩ := hI.2
    exact (hw.2.1 g hg).2.2.2.2.2.2 q hq
  refine ⟨_, gNum.deed gNum.IM, c_L_deedD G (by decide) gNum.IM hx_N (c_L_done_0 G hbx gNum.IM (c_X6_addRide G hR (by rw [hB.2.1.1]; exact hR4) hGL (by rw [hx]; exact ⟨nI_pos (by omega), nI_nlt (a := 250) hi (by omega)⟩) (by rw [hy]; exact ⟨nI_pos (by omega), nI_nlt (a := 40) hj (by omega)⟩) (by rw [hz]; exact ⟨nI_pos (by omega), nI_nlt (a := 99) hk (by omega)⟩))), fun v h2 q => ?_⟩
  rcases q with ⟨w, rfl, ad2, e2, hR2⟩ | ⟨E, q, -⟩
  · refine ⟨w, rfl, _, ⟨ad2, e2, hR2⟩, ?_⟩
    rw [hz]
    have h6 : ∀ s, pI (fAddR P x y (nI k)) 6 0 0 s = pI P 6 0 0 s := fun s => by
      rw [pI_addR, if_neg (fun e => absurd e.1 (by decide)), if_neg (fun e => absurd e.1 (by decide)), if_neg (fun e => absurd e.1 (by decide)), if_neg (fun e => absurd e.1 (by decide)), if_neg (fun e => absurd e.1 (by decide))]
    obtain ⟨-, ⟨h1, h2⟩, h4, h5, h7⟩ := hB
    refine ⟨⟨hI.addR (by rw [h1]; exact hR4) hk, ⟨by show pnR P + 1 = _; rw [h1], h2⟩, h4, (h6 7).trans h5, (h6 3).trans h7⟩, ?_, ?_, fun r hr => ?_⟩
    · show (if R = pnR P then 0 else pnB P R) = 0
      rw [h1, if_pos rfl]
    · rw [pI_addR, if_neg (fun e => absurd e.1 (by decide)), if_neg (fun e => absurd e.1 (by decide)), if_neg (fun e => absurd e.1 (by decide)), if_pos ⟨rfl, h1.symm, rfl, rfl⟩]
    · show (if r = pnR P then 0 else pnB P r) = pnB P r
      rw [h1, if_neg hr]
  · exact q.elim
theorem b_1 (G : gG Z) (hL : LR Z a P h) (hB : BI R S Gn P) {x kd u v w : Int32} {r k : Nat} (hx : x = nI r) (hr : r < R) (h0 : pI P 4 r 0 2 = 0) (hk : pnB P r = k) (hk12 : k < 12) (hu : ¬ u < 1 ∧ ¬ 20 < u) (hv : ¬ v < (-9) ∧ ¬ 9 < v) (hw : ¬ w < 0 ∧ ¬ 9 < w) (hkd : (kd = 115 ∧ v = 0 ∧ w = 0) ∨ (kd = 98 ∧ v = 0 ∧ w = 0) ∨ kd = 108 ∨ kd = 116) : gMet Z yL_block cL_block 6 (some .int) 6 1 6 [.ref a, .int x, .int kd, .int u, .int v, .int w] h (qP Z a (fun _ P2 => BI R S Gn P2 ∧ pnB P2 r = k + 1 ∧ pI P2 4 r 0 2 = 0 ∧ ∀ r', r' ≠ r → pnB P2 r' = pnB P r')) qN := by
  obtain ⟨ad, rfl, hR⟩ := hL
  obtain ⟨fs, hbx⟩ := hR.box
  have hr' := hB.r hr
  refine c_L_blockM G (gNum.deed gNum.IM) (fun v2 h2 q => ?_) (c_L_deedD G (by decide) gNum.IM hx_N (c_L_done_1 G hbx (by rcases hkd with ⟨rfl, -⟩ | ⟨rfl, -⟩ | rfl | rfl <;> decide) gNum.IM (c_X6_addBlock G hR hB.1.wf hx hr' h0 (by rw [hk]; exact hk12) hu hv hw hkd)))
  rcases q with ⟨y, rfl, ad2, e2, hR2⟩ | ⟨E, q, -⟩
  · refine ⟨y, rfl, _, ⟨ad2, e2, hR2⟩, ?_⟩
    have e : ∀ k' r' i s, k' ≠ 0 → pI (fAddB P r kd u v w) k' r' i s = pI P k' r' i s := fun k' r' i s hk' => by rw [pI_addB, if_neg (fun e => hk' e.1)]
    obtain ⟨hI, ⟨h1, h2⟩, h4, h5, h7⟩ := hB
    exact ⟨⟨hI.addB hr' h0 (by rw [hk]; exact hk12), ⟨h1, h2⟩, h4, (e _ _ _ _ (by decide)).trans h5, (e _ _ _ _ (by decide)).trans h7⟩, by rw [pnB_addB, if_pos rfl, hk], (e _ _ _ _ (by decide)).trans h0, fun r' hn => by rw [pnB_addB, if_neg hn]⟩
  · exact q.elim
theorem b_2 (G : gG Z) (hL : LR Z a P h) (hB : BI R S Gn P) {x z : Int32} {r : Nat} (hx : x = nI r) (hr : r < R) : gMet Z yL_ask cL_ask 4 (some .int) 10 1 6 [.ref a, .int 2, .int x, .int z] h (qP Z a (fun _ P2 => BI R S Gn P2 ∧ ∀ r', pnB P2 r' = pnB P r')) qN := by
  obtain ⟨ad, rfl, hR⟩ := hL
  obtain ⟨fs, hbx⟩ := hR.box
  refine ask_D G (by decide) gNum.IM (hxR (fun E q => q)) (fun v h2 q => ?_) (c_L_done_2 G hbx gNum.IM (c_X6_close G hR hB.1.wf hx (hB.r hr)))
  rcases q with ⟨y, rfl, P2, hR2, rfl, h0, h4, hk⟩ | ⟨E, ⟨hE, rfl⟩, rfl⟩
  · exact ⟨y, rfl, _, ⟨ad, rfl, hR2⟩, hB.of (hB.1.close h0 h4 hk) (eqK.uI (by decide)) (pI_uk (by decide)), fun _ => rfl⟩
  · exact ⟨_, rfl, P, ⟨ad, rfl, hR⟩, hB, fun _ => rfl⟩
theorem b_3 (G : gG Z) (hL : LR Z a P h) (hB : BI R S Gn P) {x y : Int32} {r s : Nat} (hx : x = nI r) (hr : r < R) (hy : y = nI s) (hs : 1 ≤ s ∧ s ≤ 8) : gMet Z yL_ask cL_ask 4 (some .int) 10 3 29 [.ref a, .int 3, .int x, .int y] h (qP Z a (fun _ P2 => BI R S Gn P2 ∧ ∀ r', pnB P2 r' = pnB P r')) qN := by
  obtain ⟨ad, rfl, hR⟩ := hL
  obtain ⟨fs, hbx⟩ := hR.box
  have hr' := hB.r hr
  have hv : ¬ y < 1 ∧ ¬ 8 < y := by rw [hy]; exact ⟨nI_nlt (b := 1) hs.1 (by omega), nI_nlt (a := 8) (by omega) (by omega)⟩
  refine ask_D G (by decide) gNum.IM (hx_T (F := fun E => E = eREF ∨ E = eSTA) (fun E q => q.elim (fun e => by rw [e]; exact eREF_in) (fun e => by rw [e]; exact eSTA_in))) (fun v h2 q => ?_) (c_L_done_3 G hbx gNum.IM (c_X6_addTrain G hR hB.1.wf hx hr' hv))
  rcases q with ⟨z, rfl, hz, hcl, hfr, h4, ad2, e2, P2, hR2, hP2⟩ | ⟨E, ⟨hE, rfl⟩, rfl⟩
  · have hI := hB.1.addT hr' h4 hv hcl hfr
    have e0 : eqK P (fAddT P r y) := ⟨⟨rfl, rfl, fun _ => rfl⟩, rfl, rfl, rfl⟩
    have es : pI (fAddT P r y) 6 0 0 3 = pI P 6 0 0 3 := rfl
    refine ⟨z, rfl, P2, ⟨ad2, e2, hR2⟩, ?_⟩
    rcases hP2 with rfl | rfl
    · exact ⟨hB.of hI e0 es, fun _ => rfl⟩
    · exact ⟨hB.of (hI.kI (by decide)) (e0.trans (eqK.uI (by decide))) ((pI_uk (by decide)).trans es), fun _ => rfl⟩
  · exact ⟨_, rfl, P, ⟨ad, rfl, hR⟩, hB, fun _ => rfl⟩
theorem b_4 (G : gG Z) (hL : LR Z a P h) (hB : BI R S Gn P) (h8 : S < 8) {x z : Int32} {j : Nat} (hx : x = nI j) (hj : j ≤ 15) : gMet Z yL_ask cL_ask 4 (some .int) 5 0 0 [.ref a, .int 4, .int x, .int z] h (qP Z a (fun _ P2 => BI R (S + 1) Gn P2 ∧ ∀ r', pnB P2 r' = pnB P r')) qN := by
  obtain ⟨ad, rfl, hR⟩ := hL
  obtain ⟨fs, hbx⟩ := hR.box
  refine ask_D G (by decide) gNum.IM hx_N (fun v h2 q => ?_) (c_L_done_4 G hbx gNum.IM (c_X6_addStaff G hR (by rw [hx]; exact ⟨nI_pos (by omega), nI_nlt (a := 15) hj (by omega)⟩) hB.2.2.2.2 h8))
  rcases q with ⟨y, rfl, P2, hR2, rfl⟩ | ⟨E, q, -⟩
  · have hI := (hB.1.kI (k := 8) (r := 0) (i := 0) (s := S) (v := x) ⟨by simp, by simp, by simp, by simp⟩).kI (k := 6) (r := 0) (i := 0) (s := 3) (v := nI (S + 1)) (by decide)
    obtain ⟨-, ⟨h1, h2'⟩, h4, h5, h7⟩ := hB
    exact ⟨y, rfl, _, ⟨ad, rfl, hR2⟩, ⟨hI, ⟨h1, h2'⟩, h4, by rw [pI_us (by decide), pI_uk (by decide)]; exact h5, by rw [pI_uI, if_pos ⟨rfl, rfl, rfl, rfl⟩]⟩, fun _ => rfl⟩
  · exact q.elim
theorem b_mem {m S : Nat} {y : Int32} (hy : y = nI m) (hm : m < S) (hS : S ≤ 8) (h : pI P 6 0 0 3 = nI S) : ¬ y < 0 ∧ y < pI P 6 0 0 3 := by
  rw [hy, h]
  exact ⟨nI_pos (by omega), nI_lt hm (by omega)⟩
theorem b_5 (G : gG Z) (hL : LR Z a P h) (hB : BI R S Gn P) (h8 : S ≤ 8) {x y : Int32} {r m : Nat} (hx : x = nI r) (hr : r < R) (hy : y = nI m) (hm : m < S) : gMet Z yL_ask cL_ask 4 (some .int) 10 1 6 [.ref a, .int 5, .int x, .int y] h (qP Z a (fun _ P2 => BI R S Gn P2 ∧ ∀ r', pnB P2 r' = pnB P r')) qN := by
  obtain ⟨ad, rfl, hR⟩ := hL
  obtain ⟨fs, hbx⟩ := hR.box
  refine ask_D G (by decide) gNum.IM (hxR (fun E q => q)) (fun v h2 q => ?_) (c_L_done_5 G hbx gNum.IM (c_X6_assign G hR hB.1.wf hx (hB.r hr) (b_mem hy hm h8 hB.2.2.2.2)))
  rcases q with ⟨z, rfl, P2, hR2, rfl⟩ | ⟨E, ⟨hE, rfl⟩, rfl⟩
  · exact ⟨z, rfl, _, ⟨ad, rfl, hR2⟩, hB.of (hB.1.kI (by decide)) (eqK.uI (by decide)) (pI_uk (by decide)), fun _ => rfl⟩
  · exact ⟨_, rfl, P, ⟨ad, rfl, hR⟩, hB, fun _ => rfl⟩
theorem b_6 (G : gG Z) (hL : LR Z a P h) (hB : BI R S Gn P) (h8 : S ≤ 8) {x y : Int32} {r m : Nat} (hx : x = nI r) (hr : r < R) (hy : y = nI m) (hm : m < S) : gMet Z yL_ask cL_ask 4 (some .int) 10 1 6 [.ref a, .int 6, .int x, .int y] h (qP Z a (fun _ P2 => BI R S Gn P2 ∧ ∀ r', pnB P2 r' = pnB P r')) qN := by
  obtain ⟨ad, rfl, hR⟩ := hL
  obtain ⟨fs, hbx⟩ := hR.box
  refine ask_D G (by decide) gNum.IM (hxR (fun E q => q)) (fun v h2 q => ?_) (c_L_done_6 G hbx gNum.IM (c_X6_inspect G hR hB.1.wf hx (hB.r hr) (b_mem hy hm h8 hB.2.2.2.2)))
  rcases q with ⟨z, rfl, P2, hR2, rfl⟩ | ⟨E, ⟨hE, rfl⟩, rfl⟩
  · exact ⟨z, rfl, _, ⟨ad, rfl, hR2⟩, hB.of ((hB.1.kI (by decide)).kI (by decide)) ((eqK.uI (by decide)).trans (eqK.uI (by decide))) (by rw [pI_uk (by decide), pI_uk (by decide)]), fun _ => rfl⟩
  · exact ⟨_, rfl, P, ⟨ad, rfl, hR⟩, hB, fun _ => rfl⟩
theorem b_16 (G : gG Z) (hL : LR Z a P h) (hB : BI R S Gn P) (h60 : Gn < 60) {x y z : Int32} {i j k : Nat} (hx : x = nI i) (hi : i ≤ 999) (hy : y = nI j) (hj : 50 ≤ j ∧ j ≤ 250) (hz : z = nI k) (hk : k ≤ 9) : ∃ Q, gNum Q ∧ gMetH Z yL_deed cL_deed 8 (some .int) hhD 4 1 11 [.ref a, .int 16, .int x, .int y, .int z, .int 0, .int 0] h Q qN ∧ ∀ v h2, Q v h2 → qP Z a (fun _ P2 => BI R S (Gn + 1) P2 ∧ ∀ r', pnB P2 r' = pnB P r') v h2 := by
  obtain ⟨ad, rfl, hR⟩ := hL
  obtain ⟨fs, hbx⟩ := hR.box
  have hI := hB.1
  have hW := hI.wf
  have hRD : ∀ r i j g, gLive P 12 r i → pRD P r i j = some g → g < pnG P := fun r i j g hl hg => by
    obtain ⟨l, hT⟩ := hW.tr (r := r) (i := i) hl.1 hl.2
    exact hT.mem hg
  have hPL : ∀ r i j g, gLive P 13 r i → pPL P r i j = some g → g < pnG P := fun r i j g hl hg => by
    obtain ⟨l, hT⟩ := hW.ln (r := r) (q := i) hl.1 hl.2
    exact hT.mem hg
  refine ⟨_, gNum.deed gNum.IM, c_L_deedD G (by decide) gNum.IM hx_N (c_L_done_16 G hbx gNum.IM (c_X6_enter G hR (by rw [hB.2.1.2]; exact h60) hRD hPL (by rw [hx]; exact ⟨nI_pos (by omega), nI_nlt (a := 999) hi (by omega)⟩) (by rw [hy]; exact ⟨nI_nlt (b := 50) hj.1 (by omega), nI_nlt (a := 250) hj.2 (by omega)⟩) (by rw [hz]; exact ⟨nI_pos (by omega), nI_nlt (a := 9) hk (by omega)⟩))), fun v h2 q => ?_⟩
  rcases q with ⟨w, rfl, ad2, e2, hR2⟩ | ⟨E, q, -⟩
  · refine ⟨w, rfl, _, ⟨ad2, e2, hR2⟩, ?_⟩
    rw [hx]
    have h6 : ∀ s, pI (fEnter P (nI i) y z) 6 0 0 s = pI P 6 0 0 s := fun s => by rw [pI_enter, if_neg (fun e => absurd e.1 (by decide))]
    obtain ⟨-, ⟨h1, h2⟩, h4, h5, h7⟩ := hB
    exact ⟨⟨hI.enter (by rw [h2]; exact h60) hi, ⟨h1, by show pnG P + 1 = _; rw [h2]⟩, h4, (h6 7).trans h5, (h6 3).trans h7⟩, fun _ => rfl⟩
  · exact q.elim
end GBUILD1
