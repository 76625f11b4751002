/-! the law's deeds in its loop, over what they keep -/
section GDEEDS
variable {Z : gEnv} {h : gH}
/-- what all calls of the law's loop keep: the invariant, the counts, the money that came in and went out, the tick -/
def LJ (B O : Int64) (t : Int32) (P : gP) : Prop := Inv P ∧ (pnR P = 2 ∧ pnG P = 14 ∧ ∀ r, r < 2 → 4 ≤ pnB P r) ∧ pJ P 10 = B ∧ pJ P 12 = O ∧ pI P 6 0 0 7 = t
/-- counts, money and tick the same -/
def eqK (P Q : gP) : Prop := (pnR Q = pnR P ∧ pnG Q = pnG P ∧ ∀ r, pnB Q r = pnB P r) ∧ pJ Q 10 = pJ P 10 ∧ pJ Q 12 = pJ P 12 ∧ pI Q 6 0 0 7 = pI P 6 0 0 7
theorem LJ.of {B O : Int64} {t : Int32} {P Q : gP} (h : LJ B O t P) (hI : Inv Q) (e : eqK P Q) : LJ B O t Q := by
  obtain ⟨-, ⟨h1, h2, h3⟩, h4, h5, h6⟩ := h
  obtain ⟨⟨e1, e2, e3⟩, e4, e5, e6⟩ := e
  exact ⟨hI, ⟨e1.trans h1, e2.trans h2, fun r hr => by rw [e3]; exact h3 r hr⟩, e4.trans h4, e5.trans h5, e6.trans h6⟩
theorem LJ.inv {B O : Int64} {t : Int32} {P : gP} (h : LJ B O t P) : Inv P := h.1
theorem LJ.r {B O : Int64} {t : Int32} {P : gP} (h : LJ B O t P) {r : Nat} (hr : r < 2) : r < pnR P := by rw [h.2.1.1]; exact hr
theorem LJ.g {B O : Int64} {t : Int32} {P : gP} (h : LJ B O t P) {g : Nat} (hg : g < 14) : g < pnG P := by rw [h.2.1.2.1]; exact hg
theorem eqK.uI {P : gP} {k r i s : Nat} {v : Int32} (hk : ¬ (k = 6 ∧ s = 7)) : eqK P (uI P k r i s v) := ⟨⟨rfl, rfl, fun _ => rfl⟩, rfl, rfl, by rw [pI_uI, if_neg (fun e => hk ⟨e.1.symm, e.2.2.2.symm⟩)]⟩
theorem eqK.uJ {P : gP} {s : Nat} {v : Int64} (hs : s ≠ 10 ∧ s ≠ 12) : eqK P (uJ P s v) := ⟨⟨rfl, rfl, fun _ => rfl⟩, by rw [pJ_uJ, if_neg (fun e => hs.1 e.symm)], by rw [pJ_uJ, if_neg (fun e => hs.2 e.symm)], rfl⟩
theorem eqK.trans {P Q R : gP} (a : eqK P Q) (b : eqK Q R) : eqK P R := ⟨⟨b.1.1.trans a.1.1, b.1.2.1.trans a.1.2.1, fun r => (b.1.2.2 r).trans (a.1.2.2 r)⟩, b.2.1.trans a.2.1, b.2.2.1.trans a.2.2.1, b.2.2.2.trans a.2.2.2⟩
theorem eqK.rfl' {P : gP} : eqK P P := ⟨⟨rfl, rfl, fun _ => rfl⟩, rfl, rfl, rfl⟩
theorem eqK.fin {P : gP} {f : Int32} {l : List Nat} : eqK P (fFinA P f l) := by
  obtain ⟨e2, ek⟩ := fFinA_same f l P
  exact ⟨⟨congrArg (fun x => x.2.2.2.2.1) e2, congrArg (fun x => x.2.2.2.2.2.1) e2, fun r => congrArg (fun x => x.2.2.2.2.2.2.1 r) e2⟩, congrArg (fun x => x.1 10) e2, congrArg (fun x => x.1 12) e2, ek 6 0 0 7 (by decide)⟩
theorem eqK.sRD {P : gP} {r i : Nat} {f : Nat → Option Nat} : eqK P (sRD P r i f) := ⟨⟨rfl, rfl, fun _ => rfl⟩, rfl, rfl, rfl⟩
theorem eqK.sPL {P : gP} {r i : Nat} {f : Nat → Option Nat} : eqK P (sPL P r i f) := ⟨⟨rfl, rfl, fun _ => rfl⟩, rfl, rfl, rfl⟩
theorem eqK.uGL {P : gP} {g : Nat} {v : Option (Nat × Nat)} : eqK P (uGL P g v) := ⟨⟨rfl, rfl, fun _ => rfl⟩, rfl, rfl, rfl⟩
theorem eqK.sTr {P : gP} {r i : Nat} {l : List Nat} : eqK P (sTr P r i l) := (eqK.uI (by decide)).trans eqK.sRD
theorem eqK.sLn {P : gP} {r i : Nat} {l : List Nat} : eqK P (sLn P r i l) := (eqK.uI (by decide)).trans eqK.sPL
theorem eqK.stand {P : gP} {r i : Nat} {l : List Nat} {s : Int32} : eqK P (fStand P r i l s) := by
  have h0 : eqK P (fStand0 P r i s) := (((eqK.uI (by decide)).trans (eqK.uI (by decide))).trans (eqK.uI (by decide))).trans (eqK.uI (by decide))
  unfold fStand
  split
  · exact (h0.trans eqK.fin).trans eqK.sTr
  · exact h0
theorem eqK.mv {P Q : gP} {r i b : Nat} {l : List Nat} (hm : mvRel P Q r i b l) : eqK P Q := by
  rcases hm with rfl | rfl | ⟨-, rfl⟩ | ⟨-, e, c, f, rfl⟩
  · exact eqK.uI (by decide)
  · exact eqK.uI (by decide)
  · exact eqK.stand
  · exact (((eqK.uI (by decide)).trans (eqK.uI (by decide))).trans (eqK.uI (by decide))).trans (eqK.uI (by decide))
theorem eqK.go {P : gP} {r i : Nat} {p : Int32} : eqK P (fGo P r i p) := by
  unfold fGo
  split
  · exact ((eqK.uI (by decide)).trans (eqK.uI (by decide))).trans (eqK.uI (by decide))
  · exact (eqK.uI (by decide)).trans (eqK.uI (by decide))
theorem eqK.sns {P : gP} {r b : Nat} {p w : Int32} : eqK P (fSns P r b p w) := by
  unfold fSns
  split <;> exact eqK.uI (by decide)
theorem eqK.seat {P : gP} {r i g : Nat} {l : List Nat} : eqK P (fSeat P r i l g) := (eqK.sTr.trans eqK.uGL).trans (eqK.uI (by decide))
/-- ticks keep it, but the tick -/
theorem LJ.tk (B O : Int64) : tkJ (LJ B O) := by
  refine ⟨fun t P h => ⟨h.1.wf, h.2.2.2.2⟩, fun t P h => ?_, fun t P P2 r i b l h hr hi hb hbn hs hT hm => h.of (h.1.mv hr hi hb hbn hs hT hm) (eqK.mv hm), fun t P r i b w h hr hi hb hbn hs hk => h.of (h.1.go hr hi hb hbn hs hk) eqK.go, fun t P r h hr => h.of (h.1.kI (by decide)) (eqK.uI (by decide)), fun t P g h hg h0 => h.of (h.1.rest hg h0) (eqK.uI (by decide))⟩
  obtain ⟨h0, h1, h4, h5, h6⟩ := h
  exact ⟨h0.kI (by decide), h1, h4, h5, by rw [pI_uI, if_pos ⟨rfl, rfl, rfl, rfl⟩]⟩
/-- an answer and a park that keeps it -/
def qP (Z : gEnv) (a : Nat) (F : Int32 → gP → Prop) : Option Value → gH → Prop := fun v h2 => ∃ y, v = some (.int y) ∧ ∃ P2, LR Z a P2 h2 ∧ F y P2
theorem hxR {F : String → Prop} (hF : ∀ E, F E → E = eREF) : ∀ E h1, qT h F E h1 → E ∈ eAll := fun E _ q => by rw [hF E q.1]; exact eREF_in
theorem inW.len {P : gP} {LL RR : Nat → Nat → List Nat} {m p : Nat → Nat} (hn : pnR P ≤ 4) (h : inW P LL RR m p) {r q : Nat} (hr : r < pnR P) (hq : q < 3) : (LL r q).length ≤ pnG P := by
  obtain ⟨hw, hgs, -⟩ := h
  obtain ⟨-, -, -, hmem⟩ := hw.1 r q hr hq
  rw [sumN_len _ hmem]
  have h1 : sumN (pnG P) (fun x => (LL r q).count x) ≤ sumN (pnG P) (fun _ => 1) := by
    refine sumN_le (fun j hj => ?_)
    have hc := (hgs j hj).2.2.2.1.1
    have hge := ctL_ge (LL := LL) (r := r) (q := q) (x := j) (by omega) hq
    by_cases e2 : pI P 1 j 0 6 = 113
    · rw [if_pos e2] at hc; omega
    · rw [if_neg e2] at hc; omega
  rw [sumN_one] at h1
  exact h1
variable {B O : Int64} {t : Int32} {a : Nat} {P : gP}
theorem a_3 (G : gG Z) (hL : LR Z a P h) (hJ : LJ B O t P) {x : Int32} {r s : Nat} (hx : x = nI r) (hr : r < 2) {y : Int32} (hy : y = nI s) (hs : 1 ≤ s ∧ s ≤ 8) : gMet Z yL_ask cL_ask 4 (some .int) 10 3 29 [.ref a, .int 3, .int x, .int y] h (qP Z a (fun y P2 => LJ B O t P2 ∧ ((y = -2004 ∨ y = -2003) ∨ ∃ j, j < 4 ∧ y = nI j))) qN := by
  obtain ⟨ad, rfl, hR⟩ := hL
  obtain ⟨fs, hb⟩ := hR.box
  have hr' := hJ.r hr
  have hv : ¬ y < 1 ∧ ¬ 8 < y := by rw [hy]; exact ⟨nI_nlt (b := 1) hs.1 (by omega), nI_nlt (a := 8) (by omega) (by omega)⟩
  refine ask_D G (by decide) gNum.IM (hx_T (F := fun E => E = eREF ∨ E = eSTA) (fun E q => q.elim (fun e => by rw [e]; exact eREF_in) (fun e => by rw [e]; exact eSTA_in))) (fun v h2 q => ?_) (c_L_done_3 G hb gNum.IM (c_X6_addTrain G hR hJ.inv.wf hx hr' hv))
  rcases q with ⟨z, rfl, hz, hcl, hfr, h4, ad2, e2, P2, hR2, hP2⟩ | ⟨E, ⟨hE, rfl⟩, rfl⟩
  · have hI := hJ.inv.addT hr' h4 hv hcl hfr
    have e0 : eqK P (fAddT P r y) := ⟨⟨rfl, rfl, fun _ => rfl⟩, rfl, rfl, rfl⟩
    refine ⟨z, rfl, P2, ⟨ad2, e2, hR2⟩, ?_, Or.inr ⟨pnT P r, h4, hz⟩⟩
    rcases hP2 with rfl | rfl
    · exact hJ.of hI e0
    · exact hJ.of (hI.kI (by decide)) (e0.trans (eqK.uI (by decide)))
  · refine ⟨_, rfl, P, ⟨ad, rfl, hR⟩, hJ, Or.inl ?_⟩
    rcases hE with rfl | rfl
    · exact Or.inl code_REF
    · exact Or.inr code_STA
theorem a_9 (G : gG Z) (hL : LR Z a P h) (hJ : LJ B O t P) {x z p w : Int32} {r b : Nat} (hx : x = nI r) (hr : r < 2) (hz : z = nI b) (hb : b < 4) (hp : p = 0 ∨ p = 1) (hw : w = 116 ∨ w = 97 ∨ w = 110) : ∃ Q, gNum Q ∧ gMetH Z yL_deed cL_deed 8 (some .int) hhD 9 0 0 [.ref a, .int 9, .int x, .int z, .int p, .int w, .int 0] h Q qN ∧ ∀ v h2, Q v h2 → qP Z a (fun _ P2 => LJ B O t P2) v h2 := by
  obtain ⟨ad, rfl, hR⟩ := hL
  obtain ⟨fs, hbx⟩ := hR.box
  have hr' := hJ.r hr
  have hch : gChr w := by rcases hw with rfl | rfl | rfl <;> exact ⟨rfl, rfl⟩
  refine ⟨_, gNum.deed gNum.IM, c_L_deedD G (by decide) gNum.IM hx_N (c_L_done_9 G hbx (by rcases hw with rfl | rfl | rfl <;> decide) gNum.IM (c_X6_setSensor G hR hJ.inv.wf hx hr' hz (Nat.lt_of_lt_of_le hb (hJ.2.1.2.2 r hr)) hp hw)), fun v h2 q => ?_⟩
  rcases q with ⟨y, rfl, P2, hR2, hP2⟩ | ⟨E, q, -⟩
  · refine ⟨y, rfl, P2, ⟨ad, rfl, hR2⟩, ?_⟩
    rcases hP2 with rfl | rfl
    · exact hJ.of (hJ.inv.sns hch) eqK.sns
    · exact hJ.of ((hJ.inv.sns hch).kI (by decide)) (eqK.sns.trans (eqK.uI (by decide)))
  · exact q.elim
theorem a_10 (G : gG Z) (hL : LR Z a P h) (hJ : LJ B O t P) {x z : Int32} {r : Nat} (hx : x = nI r) (hr : r < 2) : gMet Z yL_ask cL_ask 4 (some .int) 10 1 6 [.ref a, .int 10, .int x, .int z] h (qP Z a (fun _ P2 => LJ B O t P2)) qN := by
  obtain ⟨ad, rfl, hR⟩ := hL
  obtain ⟨fs, hb⟩ := hR.box
  have hr' := hJ.r hr
  refine ask_D G (by decide) gNum.IM (hxR (fun E q => q)) (fun v h2 q => ?_) (c_L_done_10 G hb gNum.IM (c_X6_reset G hR hJ.inv.wf hx hr'))
  rcases q with ⟨y, rfl, P2, hR2, rfl⟩ | ⟨E, ⟨hE, rfl⟩, rfl⟩
  · exact ⟨y, rfl, _, ⟨ad, rfl, hR2⟩, hJ.of (hJ.inv.kI (by decide)) (eqK.uI (by decide))⟩
  · exact ⟨_, rfl, P, ⟨ad, rfl, hR⟩, hJ⟩
theorem a_11 (G : gG Z) (hL : LR Z a P h) (hJ : LJ B O t P) {x z : Int32} {j : Nat} (hx : x = nI j) (hj : j ≤ 40) : gMet Z yL_ask cL_ask 4 (some .int) 5 0 0 [.ref a, .int 11, .int x, .int z] h (qP Z a (fun _ P2 => LJ B O t P2)) qN := by
  obtain ⟨ad, rfl, hR⟩ := hL
  obtain ⟨fs, hb⟩ := hR.box
  refine ask_D G (by decide) gNum.IM hx_N (fun v h2 q => ?_) (c_L_done_11 G hb gNum.IM (c_X6_setWind G hR (by rw [hx]; exact ⟨nI_pos (by omega), nI_nlt (a := 40) hj (by omega)⟩)))
  rcases q with ⟨y, rfl, P2, hR2, rfl⟩ | ⟨E, q, -⟩
  · exact ⟨y, rfl, _, ⟨ad, rfl, hR2⟩, hJ.of (hJ.inv.kI (by decide)) (eqK.uI (by decide))⟩
  · exact q.elim
theorem a_12 (G : gG Z) (hL : LR Z a P h) (hJ : LJ B O t P) {x z : Int32} {j : Nat} (hx : x = nI j) (hj : j ≤ 99) : gMet Z yL_ask cL_ask 4 (some .int) 5 0 0 [.ref a, .int 12, .int x, .int z] h (qP Z a (fun _ P2 => LJ B O t P2)) qN := by
  obtain ⟨ad, rfl, hR⟩ := hL
  obtain ⟨fs, hb⟩ := hR.box
  refine ask_D G (by decide) gNum.told hx_N (fun v h2 q => ?_) (c_L_done_12 G hb (by decide) gNum.IM (c_X6_strike G hR (by rw [hx]; exact ⟨nI_pos (by omega), nI_nlt (a := 99) hj (by omega)⟩)))
  rcases q with ⟨x0, ⟨y, ey, P2, hR2, hP2⟩, rfl⟩ | ⟨E, q, -⟩
  · refine ⟨_, rfl, P2, ⟨ad, rfl, hR2⟩, ?_⟩
    rcases hP2 with rfl | rfl
    · exact hJ
    · exact hJ.of ((hJ.inv.kI (by decide)).kI (by decide)) ((eqK.uI (by decide)).trans (eqK.uI (by decide)))
  · exact q.elim
theorem a_14 (G : gG Z) (hL : LR Z a P h) (hJ : LJ B O t P) {x z : Int32} {r i : Nat} (hx : x = nI r) (hr : r < 2) (hz : z = nI i) (hi : i < pnT P r) : gMet Z yL_ask cL_ask 4 (some .int) 11 2 12 [.ref a, .int 14, .int x, .int z] h (qP Z a (fun y P2 => LJ B O t P2 ∧ pnT P2 r = pnT P r ∧ ((y = -2004 ∧ ¬ pI P 5 r i 5 = 120) ∨ (pI P 5 r i 5 = 120 ∧ pI P2 5 r i 5 = 115 ∧ pI P2 5 r i 3 = y ∧ ∃ b, b < 12 ∧ y = nI b)))) qN := by
  obtain ⟨ad, rfl, hR⟩ := hL
  obtain ⟨fs, hb⟩ := hR.box
  have hr' := hJ.r hr
  have hRd := hJ.inv.1.2 r hr'
  obtain ⟨b, hbn, hbb, -, -⟩ := hRd.2.2.2.2.1 i hi
  obtain ⟨l, hT⟩ := hJ.inv.wf.tr hr' hi
  refine ask_D G (by decide) gNum.IM (hxR (fun E q => q.1)) (fun v h2 q => ?_) (c_L_done_14 G hb gNum.IM (c_X6_push G hR hJ.inv.wf hx hr' hz hi hbb hbn hT))
  rcases q with ⟨y, rfl, h120, P2, hR2, hP2, hy⟩ | ⟨E, ⟨⟨rfl, hn⟩, rfl⟩, rfl⟩
  · have hI := hJ.inv.push hr' hi hbb hbn h120 hT
    have hlt := fNS_lt (P := P) (r := r) (pnB P r) (fNx (pnB P r) b) (fNx_lt hbn)
    have hB := hRd.1.1
    have e3 : pI (fStand P r i l (nI (fNS P r (pnB P r) (fNx (pnB P r) b)))) 5 r i 3 = nI (fNS P r (pnB P r) (fNx (pnB P r) b)) := by rw [pI_stand, if_pos ⟨rfl, rfl⟩]; rfl
    have e5 : pI (fStand P r i l (nI (fNS P r (pnB P r) (fNx (pnB P r) b)))) 5 r i 5 = 115 := by rw [pI_stand, if_pos ⟨rfl, rfl⟩]; rfl
    refine ⟨y, rfl, P2, ⟨ad, rfl, hR2⟩, ?_⟩
    rcases hP2 with rfl | rfl
    · exact ⟨hJ.of hI eqK.stand, nT_2 fStand_2 r, Or.inr ⟨h120, e5, hy.symm, _, by omega, hy.trans e3⟩⟩
    · exact ⟨hJ.of (hI.kI (by decide)) (eqK.stand.trans (eqK.uI (by decide))), nT_2 fStand_2 r, Or.inr ⟨h120, (pI_uk (by decide)).trans e5, hy.symm, _, by omega, hy.trans ((pI_uk (by decide)).trans e3)⟩⟩
  · exact ⟨_, rfl, P, ⟨ad, rfl, hR⟩, hJ, rfl, Or.inl ⟨code_REF, hn⟩⟩
theorem a_15 (G : gG Z) (hL : LR Z a P h) (hJ : LJ B O t P) {x z : Int32} {nn : Nat} (hx : x = nI nn) (hn : 1 ≤ nn ∧ nn ≤ 60) : gMet Z yL_ask cL_ask 4 (some .int) 11 0 0 [.ref a, .int 15, .int x, .int z] h (qP Z a (fun y P2 => LJ B O (t + nI nn) P2 ∧ y = t + nI nn)) qN := by
  obtain ⟨ad, rfl, hR⟩ := hL
  obtain ⟨fs, hb⟩ := hR.box
  refine ask_D G (by decide) gNum.IM hx_N (fun v h2 q => ?_) (c_L_done_15 G hb gNum.IM (c_X6_tick G hR (LJ.tk B O) hn hx hJ))
  rcases q with ⟨y, rfl, P2, hR2, hy, hP2⟩ | ⟨E, q, -⟩
  · exact ⟨y, rfl, P2, ⟨ad, rfl, hR2⟩, hP2, hy⟩
  · exact q.elim
theorem a_17 (G : gG Z) (hL : LR Z a P h) (hJ : LJ B O t P) {x z : Int32} {g : Nat} (hx : x = nI g) (hg : g < 14) : gMet Z yL_ask cL_ask 4 (some .int) 10 1 6 [.ref a, .int 17, .int x, .int z] h (qP Z a (fun y P2 => (y = -2004 ∧ LJ B O t P2) ∨ ∃ m, m ≤ 59940 ∧ y = nI m ∧ LJ B (O + y.toInt64) t P2 ∧ pI P2 1 g 0 6 = 111)) qN := by
  obtain ⟨ad, rfl, hR⟩ := hL
  obtain ⟨fs, hb⟩ := hR.box
  have hg' := hJ.g hg
  refine ask_D G (by decide) gNum.IM (hxR (fun E q => q.1)) (fun v h2 q => ?_) (c_L_done_17 G hb gNum.IM (c_X6_leave G hR hJ.inv.wf hx hg'))
  rcases q with ⟨y, rfl, h112, hy, P2, hR2, rfl⟩ | ⟨E, ⟨⟨rfl, hn⟩, rfl⟩, rfl⟩
  · have hI := hJ.inv.out hg' h112
    obtain ⟨-, LL, RR, m, p, hw⟩ := hJ.inv.2
    obtain ⟨-, ⟨hm, hmb⟩, -⟩ := hw.2.1 g hg'
    refine ⟨y, rfl, _, ⟨ad, rfl, hR2⟩, Or.inr ⟨m g, hmb, hy.trans hm, ⟨hI, hJ.2.1, hJ.2.2.1, ?_, hJ.2.2.2.2⟩, by rw [pI_uJ, pI_uI, if_pos ⟨rfl, rfl, rfl, rfl⟩]⟩⟩
    rw [pJ_uJ, if_pos rfl, hJ.2.2.2.1, hy]
  · exact ⟨_, rfl, P, ⟨ad, rfl, hR⟩, Or.inl ⟨code_REF, hJ⟩⟩
theorem a_18 (G : gG Z) (hL : LR Z a P h) (hJ : LJ B O t P) {y x c : Int32} {g r q : Nat} (hy : y = nI g) (hg : g < 14) (hx : x = nI r) (hr : r < 2) (hq : c = 108 ∧ q = 0 ∨ c = 115 ∧ q = 1 ∨ c = 114 ∧ q = 2) : ∃ Q, gNum Q ∧ gMetH Z yL_deed cL_deed 8 (some .int) hhD 9 1 6 [.ref a, .int 18, .int y, .int x, .int c, .int 0, .int 0] h Q qN ∧ ∀ v h2, Q v h2 → qP Z a (fun z P2 => LJ B O t P2 ∧ ((z = -2004 ∧ pI P2 1 g 0 0 = pI P 1 g 0 0) ∨ (0 < z ∧ pI P2 1 g 0 6 = 113 ∧ ¬ pI P 1 g 0 0 < pI P2 1 g 0 0))) v h2 := by
  obtain ⟨ad, rfl, hR⟩ := hL
  obtain ⟨fs, hbx⟩ := hR.box
  have hr' := hJ.r hr
  have hg' := hJ.g hg
  have hq3 : q < 3 := by rcases hq with ⟨-, rfl⟩ | ⟨-, rfl⟩ | ⟨-, rfl⟩ <;> decide
  obtain ⟨hnn, LL, RR, m, p, hw⟩ := hJ.inv.2
  have hlen := hw.len hnn.1 hr' hq3
  rw [hJ.2.1.2.1] at hlen
  have hLn := hw.1.1 r q hr' hq3
  obtain ⟨k, hk, hpr⟩ := (hJ.inv.1.2 r hr').2.2.2.1
  obtain ⟨-, ⟨hm, hmb⟩, -⟩ := hw.2.1 g hg'
  refine ⟨_, gNum.deed gNum.IM, c_L_deedD G (by decide) gNum.IM (hxR (fun E q => q)) (c_L_done_18 G hbx (by rcases hq with ⟨rfl, -⟩ | ⟨rfl, -⟩ | ⟨rfl, -⟩ <;> decide) gNum.IM (c_X6_queue G hR hJ.inv.wf hy hg' hx hr' hq hLn (by omega))), fun v h2 q' => ?_⟩
  rcases q' with ⟨z, rfl, h112, hmon, hz, P2, P1, hR2, hP1, rfl⟩ | ⟨E, ⟨hE, rfl⟩, rfl⟩
  · refine ⟨z, rfl, _, ⟨ad, rfl, hR2⟩, ?_⟩
    have hI1 : Inv P1 ∧ eqK P P1 ∧ pnG P1 = pnG P ∧ pnR P1 = pnR P ∧ pI P1 1 g 0 6 = pI P 1 g 0 6 ∧ pI P1 1 g 0 0 = pI P 1 g 0 0 ∧ Ln P1 r q (LL r q) ∧ pJ P1 11 = pJ P 11 := by
      rcases hP1 with rfl | rfl
      · exact ⟨hJ.inv, eqK.rfl', rfl, rfl, rfl, rfl, hLn, rfl⟩
      · exact ⟨hJ.inv.kI (by decide), eqK.uI (by decide), rfl, rfl, pI_us (by decide), pI_us (by decide), hLn.uI (by decide), rfl⟩
    obtain ⟨hI1, hK1, hg1, hr1, h6, h0, hL1, hj⟩ := hI1
    rw [hpr] at hmon ⊢
    rw [← hj]
    have hI2 := hI1.join (by rw [hg1]; exact hg') (h6.trans h112) (by rw [hr1]; exact hr') hq3 hk (by rw [h0]; exact hmon) hL1
    have e0 : pI (uJ (fJoin P1 g r q (LL r q) (nI k)) 11 (pJ P1 11 + (nI k).toInt64)) 1 g 0 0 = pI P 1 g 0 0 - nI k := by rw [pI_join, if_pos rfl]; show pI P1 1 g 0 0 - nI k = _; rw [h0]
    refine ⟨hJ.of hI2 (hK1.trans (((((eqK.sLn.trans eqK.uGL).trans (eqK.uI (by decide))).trans (eqK.uI (by decide))).trans (eqK.uI (by decide))).trans (eqK.uJ (by decide)))), Or.inr ⟨?_, by rw [pI_join, if_pos rfl]; rfl, ?_⟩⟩
    · rw [hz]
      exact nI_lt (a := 0) (by omega) (by omega)
    · rw [e0, hm]
      rw [hm] at hmon
      have hkm := i_money hmb hk hmon
      rw [pk_sub hkm]
      exact nI_nlt (by omega) (by omega)
  · exact ⟨_, rfl, P, ⟨ad, rfl, hR⟩, hJ, Or.inl ⟨by rw [hE]; exact code_REF, rfl⟩⟩
theorem a_19 (G : gG Z) (hL : LR Z a P h) (hJ : LJ B O t P) {x z : Int32} {g : Nat} (hx : x = nI g) (hg : g < 14) : gMet Z yL_ask cL_ask 4 (some .int) 10 1 6 [.ref a, .int 19, .int x, .int z] h (qP Z a (fun y P2 => LJ B O t P2 ∧ ((y = -2004 ∧ pI P2 1 g 0 0 = pI P 1 g 0 0) ∨ (¬ y < 0 ∧ pI P2 1 g 0 0 = pI P 1 g 0 0 + y ∧ pI P2 1 g 0 6 = 112)))) qN := by
  obtain ⟨ad, rfl, hR⟩ := hL
  obtain ⟨fs, hb⟩ := hR.box
  have hg' := hJ.g hg
  obtain ⟨hnn, LL, RR, m, p, hw⟩ := hJ.inv.2
  have hbd := hw.bound hnn.2.2 hg'
  obtain ⟨-, ⟨hm, hmb⟩, -, -, h5, -, -⟩ := hw.2.1 g hg'
  have hex : ∃ r q l, pI P 1 g 0 6 = 113 → pGL P g = some (r, q) ∧ gLive P 2 r q ∧ Ln P r q l := by
    by_cases e : pI P 1 g 0 6 = 113
    · obtain ⟨-, r, q, e1, e2, e3, -⟩ := h5 e
      exact ⟨r, q, LL r q, fun _ => ⟨e1, ⟨e2, e3⟩, hw.1.1 r q e2 e3⟩⟩
    · exact ⟨0, 0, [], fun e2 => absurd e2 e⟩
  obtain ⟨r, q, l, hgl⟩ := hex
  refine ask_D G (by decide) gNum.IM (hxR (fun E q => q.1)) (fun v h2 q' => ?_) (c_L_done_19 G hb gNum.IM (c_X6_quit G hR hJ.inv.wf hx hg' hgl))
  rcases q' with ⟨y, rfl, h113, hy, P2, hR2, rfl⟩ | ⟨E, ⟨⟨rfl, hn⟩, rfl⟩, rfl⟩
  · obtain ⟨e1, e2, e3⟩ := hgl h113
    have hI := hJ.inv.leave hg' h113 e1 e3
    obtain ⟨hpd, -⟩ := h5 h113
    refine ⟨y, rfl, _, ⟨ad, rfl, hR2⟩, hJ.of hI ((((eqK.sLn.trans eqK.uGL).trans (eqK.uI (by decide))).trans (eqK.uI (by decide))).trans (eqK.uJ (by decide))), Or.inr ⟨?_, ?_, by rw [pI_leave, if_pos rfl]; rfl⟩⟩
    · rw [hy, hpd]
      exact nI_pos (by omega)
    · rw [pI_leave, if_pos rfl, hy]
      rfl
  · exact ⟨_, rfl, P, ⟨ad, rfl, hR⟩, hJ, Or.inl ⟨code_REF, rfl⟩⟩
theorem a_20 (G : gG Z) (hL : LR Z a P h) (hJ : LJ B O t P) {x z : Int32} {g r : Nat} (hx : x = nI g) (hg : g < 14) (hz : z = nI r) (hr : r < 2) {T : Nat} (ht : t = nI T) (hT : T < 100000) : gMet Z yL_ask cL_ask 4 (some .int) 10 1 6 [.ref a, .int 20, .int x, .int z] h (qP Z a (fun y P2 => LJ B O t P2 ∧ ((y = -2004 ∧ pI P2 1 g 0 6 = 111) ∨ (¬ y < 0 ∧ y = t + 5 + pI P2 2 r 0 1)))) qN := by
  obtain ⟨ad, rfl, hR⟩ := hL
  obtain ⟨fs, hb⟩ := hR.box
  have hg' := hJ.g hg
  have hr' := hJ.r hr
  obtain ⟨l, hLn⟩ := hJ.inv.wf.ln hr' (q := 0) (by decide)
  refine ask_D G (by decide) gNum.IM (hxR (fun E q => q.1)) (fun v h2 q' => ?_) (c_L_done_20 G hb gNum.IM (c_X6_takeReturn G hR hJ.inv.wf hx hg' hz hr'))
  rcases q' with ⟨y, rfl, -, hy, P2, hR2, rfl⟩ | ⟨E, ⟨⟨rfl, hn⟩, rfl⟩, rfl⟩
  · refine ⟨y, rfl, _, ⟨ad, rfl, hR2⟩, hJ.of ((hJ.inv.kI (by decide)).kI (by decide)) ((eqK.uI (by decide)).trans (eqK.uI (by decide))), Or.inr ⟨?_, ?_⟩⟩
    · have h60 := hLn.2.2.1
      rw [hy, hJ.2.2.2.2, ht, hLn.1, show (5 : Int32) = nI 5 from rfl, nI_add, nI_add]
      exact nI_pos (by omega)
    · rw [pI_uk (by decide), pI_uk (by decide), hy, hJ.2.2.2.2]
  · exact ⟨_, rfl, P, ⟨ad, rfl, hR⟩, hJ, Or.inl ⟨code_REF, hn⟩⟩
theorem a_21 (G : gG Z) (hL : LR Z a P h) (hJ : LJ B O t P) {x z : Int32} {g : Nat} (hx : x = nI g) (hg : g < 14) : gMet Z yL_ask cL_ask 4 (some .int) 10 1 6 [.ref a, .int 21, .int x, .int z] h (qP Z a (fun y P2 => LJ B O t P2 ∧ (y = -2004 ∨ pI P 1 g 0 6 = 112))) qN := by
  obtain ⟨ad, rfl, hR⟩ := hL
  obtain ⟨fs, hb⟩ := hR.box
  have hg' := hJ.g hg
  refine ask_D G (by decide) gNum.IM (hxR (fun E q => q.1)) (fun v h2 q' => ?_) (c_L_done_21 G hb gNum.IM (c_X6_eat G hR hJ.inv.wf hx hg'))
  rcases q' with ⟨y, rfl, h112, h5, P2, hR2, rfl⟩ | ⟨E, ⟨⟨rfl, hn⟩, rfl⟩, rfl⟩
  · exact ⟨y, rfl, _, ⟨ad, rfl, hR2⟩, hJ.of (hJ.inv.eat hg' h112 h5) ((((eqK.uI (by decide)).trans (eqK.uI (by decide))).trans (eqK.uI (by decide))).trans (eqK.uJ (by decide))), Or.inr h112⟩
  · exact ⟨_, rfl, P, ⟨ad, rfl, hR⟩, hJ, Or.inl code_REF⟩
end GDEEDS
