/-! the invariant of the rides: rings, trains, holds -/
section GRIDES
/-- one ride -/
def inRide (P : gP) (r : Nat) : Prop :=
  (pnB P r ≤ 12 ∧ pnT P r ≤ 4 ∧ gChrs P r) ∧ (¬ pI P 4 r 0 2 = 0 → 4 ≤ pnB P r ∧ pI P 0 r 0 0 = 115) ∧ (0 < pnT P r → ¬ pI P 4 r 0 2 = 0) ∧ (∃ p, p ≤ 99 ∧ pI P 3 r 0 2 = nI p) ∧ (∀ i, i < pnT P r → inTr P r i) ∧ inAp P r
def inB (P : gP) : Prop := pnR P ≤ 4 ∧ ∀ r, r < pnR P → inRide P r
/-- what the rides' invariant looks at is the same, but for the train i of the ride r -/
def tOnly (P Q : gP) (r i : Nat) : Prop := (pnR Q = pnR P ∧ (∀ r, pnB Q r = pnB P r) ∧ ∀ r, pnT Q r = pnT P r) ∧ (∀ r' b s, pI Q 0 r' b s = pI P 0 r' b s) ∧ (∀ r', pI Q 3 r' 0 2 = pI P 3 r' 0 2) ∧ (∀ r', pI Q 4 r' 0 2 = pI P 4 r' 0 2) ∧ ∀ r' i' s, ¬ (r' = r ∧ i' = i) → pI Q 5 r' i' s = pI P 5 r' i' s
theorem tOnly.stop {P Q : gP} {r i : Nat} (t : tOnly P Q r i) (r' b : Nat) : fStop Q r' b = fStop P r' b := by
  unfold fStop
  rw [t.2.1]
theorem tOnly.way {P Q : gP} {r i : Nat} (t : tOnly P Q r i) {r' b : Nat} {x : Int32} (h : onWay P r' b x) : onWay Q r' b x := by
  unfold onWay at h ⊢
  rw [t.1.2.1]
  simp only [t.stop]
  exact h
theorem tOnly.tr {P Q : gP} {r i : Nat} (t : tOnly P Q r i) {r' j : Nat} (hn : ¬ (r' = r ∧ j = i)) (h : inTr P r' j) : inTr Q r' j := by
  obtain ⟨b, hb, h3, hs, hc⟩ := h
  have e := fun s => t.2.2.2.2 r' j s hn
  refine ⟨b, by rw [t.1.2.1]; exact hb, by rw [e]; exact h3, by rw [e]; exact hs, ?_⟩
  rw [e 5, e 6, e 4, e 2, t.stop]
  rcases hc with hc | ⟨h1, h2⟩
  · exact Or.inl hc
  · exact Or.inr ⟨h1, t.way h2⟩
theorem tOnly.chrs {P Q : gP} {r i : Nat} (t : tOnly P Q r i) {r' : Nat} (h : gChrs P r') : gChrs Q r' := fun b hb => by
  rw [t.2.1, t.2.1]
  exact h b (by rw [← t.1.2.1]; exact hb)
theorem tOnly.ride {P Q : gP} {r i : Nat} (t : tOnly P Q r i) {r' : Nat} (h : inRide P r') (hq : r' = r → i < pnT P r → inTr Q r i ∧ ∀ j, j < pnT P r → j ≠ i → pI Q 5 r i 6 &&& pI P 5 r j 6 = 0) : inRide Q r' := by
  obtain ⟨⟨h1, h2, h3⟩, h4, h5, h6, h7, h8⟩ := h
  refine ⟨⟨by rw [t.1.2.1]; exact h1, by rw [t.1.2.2]; exact h2, t.chrs h3⟩, ?_, ?_, ?_, ?_, ?_⟩
  · rw [t.2.2.2.1, t.1.2.1, t.2.1]; exact h4
  · rw [t.2.2.2.1, t.1.2.2]; exact h5
  · rw [t.2.2.1]; exact h6
  · intro j hj
    rw [t.1.2.2] at hj
    by_cases e : r' = r ∧ j = i
    · obtain ⟨rfl, rfl⟩ := e
      exact (hq rfl hj).1
    · exact t.tr e (h7 j hj)
  · intro j k hj hk hn
    rw [t.1.2.2] at hj hk
    by_cases e : r' = r ∧ j = i
    · obtain ⟨rfl, rfl⟩ := e
      rw [t.2.2.2.2 r' k 6 (fun e => hn e.2)]
      exact (hq rfl hj).2 k hk hn
    · rw [t.2.2.2.2 r' j 6 e]
      by_cases e2 : r' = r ∧ k = i
      · obtain ⟨rfl, rfl⟩ := e2
        rw [Int32.and_comm]
        exact (hq rfl hk).2 j hj (fun e3 => hn e3.symm)
      · rw [t.2.2.2.2 r' k 6 e2]
        exact h8 j k hj hk hn
theorem inB.upd {P Q : gP} {r i : Nat} (h : inB P) (t : tOnly P Q r i) (hq : inTr Q r i ∧ ∀ j, j < pnT P r → j ≠ i → pI Q 5 r i 6 &&& pI P 5 r j 6 = 0) : inB Q :=
  ⟨by rw [t.1.1]; exact h.1, fun r' hr' => t.ride (h.2 r' (by rw [← t.1.1]; exact hr')) (fun _ _ => hq)⟩
/-- nothing that the rides' invariant looks at is changed -/
def tNone (P Q : gP) : Prop := (pnR Q = pnR P ∧ (∀ r, pnB Q r = pnB P r) ∧ ∀ r, pnT Q r = pnT P r) ∧ (∀ r' b s, pI Q 0 r' b s = pI P 0 r' b s) ∧ (∀ r', pI Q 3 r' 0 2 = pI P 3 r' 0 2) ∧ (∀ r', pI Q 4 r' 0 2 = pI P 4 r' 0 2) ∧ ∀ r' i' s, pI Q 5 r' i' s = pI P 5 r' i' s
theorem tNone.only {P Q : gP} (t : tNone P Q) (r i : Nat) : tOnly P Q r i := ⟨t.1, t.2.1, t.2.2.1, t.2.2.2.1, fun r' i' s _ => t.2.2.2.2 r' i' s⟩
theorem tNone.trans {P Q R : gP} (t : tNone P Q) (u : tNone Q R) : tNone P R := ⟨⟨u.1.1.trans t.1.1, fun r => (u.1.2.1 r).trans (t.1.2.1 r), fun r => (u.1.2.2 r).trans (t.1.2.2 r)⟩, fun a b c => (u.2.1 a b c).trans (t.2.1 a b c), fun a => (u.2.2.1 a).trans (t.2.2.1 a), fun a => (u.2.2.2.1 a).trans (t.2.2.2.1 a), fun a b c => (u.2.2.2.2 a b c).trans (t.2.2.2.2 a b c)⟩
theorem inB.none {P Q : gP} (h : inB P) (t : tNone P Q) : inB Q :=
  ⟨by rw [t.1.1]; exact h.1, fun r' hr' => (t.only r' (pnT P r')).ride (h.2 r' (by rw [← t.1.1]; exact hr')) (fun _ e => absurd e (Nat.lt_irrefl _))⟩
theorem tNone.uI {P : gP} {k r i s : Nat} {v : Int32} (hk : k ≠ 0 ∧ k ≠ 5 ∧ ¬ (k = 3 ∧ s = 2) ∧ k ≠ 4) : tNone P (uI P k r i s v) := by
  refine ⟨⟨rfl, fun _ => rfl, fun _ => rfl⟩, fun a b c => ?_, fun a => ?_, fun a => ?_, fun a b c => ?_⟩ <;> rw [pI_uI, if_neg]
  · exact fun e => hk.1 e.1.symm
  · exact fun e => hk.2.2.1 ⟨e.1.symm, e.2.2.2.symm⟩
  · exact fun e => hk.2.2.2 e.1.symm
  · exact fun e => hk.2.1 e.1.symm
theorem tNone.uJ {P : gP} {s : Nat} {v : Int64} : tNone P (uJ P s v) := ⟨⟨rfl, fun _ => rfl, fun _ => rfl⟩, fun _ _ _ => rfl, fun _ => rfl, fun _ => rfl, fun _ _ _ => rfl⟩
theorem tNone.uGL {P : gP} {g : Nat} {v : Option (Nat × Nat)} : tNone P (uGL P g v) := ⟨⟨rfl, fun _ => rfl, fun _ => rfl⟩, fun _ _ _ => rfl, fun _ => rfl, fun _ => rfl, fun _ _ _ => rfl⟩
theorem tNone.sPL {P : gP} {r q : Nat} {f : Nat → Option Nat} : tNone P (sPL P r q f) := ⟨⟨rfl, fun _ => rfl, fun _ => rfl⟩, fun _ _ _ => rfl, fun _ => rfl, fun _ => rfl, fun _ _ _ => rfl⟩
theorem tNone.sRD {P : gP} {r q : Nat} {f : Nat → Option Nat} : tNone P (sRD P r q f) := ⟨⟨rfl, fun _ => rfl, fun _ => rfl⟩, fun _ _ _ => rfl, fun _ => rfl, fun _ => rfl, fun _ _ _ => rfl⟩
theorem tNone.sLn {P : gP} {r q : Nat} {l : List Nat} : tNone P (sLn P r q l) := (tNone.uI ⟨by decide, by decide, by decide, by decide⟩).trans tNone.sPL
theorem tOnly.trans {P Q R : gP} {r i : Nat} (t : tOnly P Q r i) (u : tOnly Q R r i) : tOnly P R r i := ⟨⟨u.1.1.trans t.1.1, fun r => (u.1.2.1 r).trans (t.1.2.1 r), fun r => (u.1.2.2 r).trans (t.1.2.2 r)⟩, fun a b c => (u.2.1 a b c).trans (t.2.1 a b c), fun a => (u.2.2.1 a).trans (t.2.2.1 a), fun a => (u.2.2.2.1 a).trans (t.2.2.2.1 a), fun a b c e => (u.2.2.2.2 a b c e).trans (t.2.2.2.2 a b c e)⟩
theorem tOnly.uI5 {P : gP} {r i s : Nat} {v : Int32} : tOnly P (uI P 5 r i s v) r i := by
  refine ⟨⟨rfl, fun _ => rfl, fun _ => rfl⟩, fun a b c => ?_, fun a => ?_, fun a => ?_, fun a b c h => ?_⟩ <;> rw [pI_uI, if_neg]
  · exact fun e => absurd e.1 (by decide)
  · exact fun e => absurd e.1 (by decide)
  · exact fun e => absurd e.1 (by decide)
  · exact fun e => h ⟨e.2.1, e.2.2.1⟩
theorem tOnly.stand {P : gP} {r i : Nat} {l : List Nat} {s : Int32} : tOnly P (fStand P r i l s) r i :=
  ⟨⟨nR_2 fStand_2, nB_2 fStand_2, nT_2 fStand_2⟩, fun _ _ _ => pI_fStand (by decide) (by decide), fun _ => pI_fStand (by decide) (by decide), fun _ => pI_fStand (by decide) (by decide), fun r' i' s h => by rw [pI_stand, if_neg h]⟩
theorem pI_go {P : gP} {r i : Nat} {p : Int32} {r' i' s : Nat} : pI (fGo P r i p) 5 r' i' s = if r' = r ∧ i' = i then (if s = 5 then 109 else if s = 6 then pI P 5 r i 6 ||| p else if s = 8 ∧ pI P 5 r i 3 = 0 then 0 else pI P 5 r i s) else pI P 5 r' i' s := by
  unfold fGo
  by_cases h : r' = r ∧ i' = i
  · obtain ⟨rfl, rfl⟩ := h
    by_cases e : pI P 5 r' i' 3 = 0 <;> simp [e, pI_uI] <;> by_cases a5 : s = 5 <;> by_cases a6 : s = 6 <;> by_cases a8 : s = 8 <;> simp_all
  · have hz : ∀ t, ¬ (r' = r ∧ i' = i ∧ s = t) := fun t e => h ⟨e.1, e.2.1⟩
    rw [if_neg h]
    split <;> simp [pI_uI, hz]
theorem tOnly.go {P : gP} {r i : Nat} {p : Int32} : tOnly P (fGo P r i p) r i := by
  unfold fGo
  split
  · exact (tOnly.uI5.trans tOnly.uI5).trans tOnly.uI5
  · exact tOnly.uI5.trans tOnly.uI5
/-- a train's block is one -/
theorem inRide.tr {P : gP} {r i b : Nat} (h : inRide P r) (hi : i < pnT P r) (hb : pI P 5 r i 3 = nI b) (hbn : b < pnB P r) : (∃ s, 1 ≤ s ∧ s ≤ 8 ∧ pI P 5 r i 0 = nI s) ∧
  ((pI P 5 r i 5 = 115 ∧ fStop P r b = true ∧ pI P 5 r i 6 = 1 <<< (nI b &&& 31) ∧ pI P 5 r i 4 = 0 ∧ (b = 0 → pI P 5 r i 2 = 0)) ∨ ((pI P 5 r i 5 = 109 ∨ pI P 5 r i 5 = 120) ∧ onWay P r b (pI P 5 r i 6))) := by
  obtain ⟨b', hb', h3, hs, hc⟩ := h.2.2.2.2.1 i hi
  have hB := h.1.1
  have e : b' = b := (nI_eq (by omega) (by omega)).mp (h3.symm.trans hb)
  subst e
  exact ⟨hs, hc⟩
theorem inRide.way {P : gP} {r i b : Nat} (h : inRide P r) (hi : i < pnT P r) (hb : pI P 5 r i 3 = nI b) (hbn : b < pnB P r) (hs : pI P 5 r i 5 = 109 ∨ pI P 5 r i 5 = 120) : onWay P r b (pI P 5 r i 6) := by
  rcases (h.tr hi hb hbn).2 with ⟨h1, -⟩ | ⟨-, h2⟩
  · rcases hs with e | e <;> exact absurd (h1.symm.trans e) (by decide)
  · exact h2
theorem nI0_iff {s : Nat} (h : s < 12) : nI s = 0 ↔ s = 0 := (nI_eq (b := 0) (by omega) (by omega))
/-- a train that comes to stand in a stop that it holds -/
theorem inRide.stand {P : gP} {r i s : Nat} {l : List Nat} (h : inRide P r) (hi : i < pnT P r) (hs : s < pnB P r) (hst : fStop P r s = true) (hh : ¬ pI P 5 r i 6 &&& (1 <<< (nI s &&& 31)) = 0) : inTr (fStand P r i l (nI s)) r i ∧ ∀ j, j < pnT P r → j ≠ i → pI (fStand P r i l (nI s)) 5 r i 6 &&& pI P 5 r j 6 = 0 := by
  have hB := h.1.1
  have t : tOnly P (fStand P r i l (nI s)) r i := tOnly.stand
  have e : ∀ j, pI (fStand P r i l (nI s)) 5 r i j = if j = 3 then nI s else if j = 4 then 0 else if j = 5 then 115 else if j = 6 then 1 <<< (nI s &&& 31) else if j = 2 ∧ nI s = 0 then 0 else pI P 5 r i j := fun j => by rw [pI_stand, if_pos ⟨rfl, rfl⟩]
  obtain ⟨_, _, _, ⟨s0, hs1, hs2, hs3⟩, _⟩ := h.2.2.2.2.1 i hi
  refine ⟨⟨s, by rw [t.1.2.1]; exact hs, by rw [e]; rfl, ⟨s0, hs1, hs2, by rw [e]; simp [hs3]⟩, Or.inl ⟨by rw [e]; rfl, by rw [t.stop]; exact hst, by rw [e]; rfl, by rw [e]; rfl, fun hz => by rw [e]; simp [hz, nI_0]⟩⟩, fun j hj hn => ?_⟩
  rw [e]
  exact one_bit (by omega) hh (h.2.2.2.2.2 i j hi hj hn)
theorem fNS_lt {P : gP} {r : Nat} : ∀ (m x : Nat), x < pnB P r → fNS P r m x < pnB P r
  | 0, _, h => h
  | m + 1, x, h => by
    unfold fNS
    split
    · exact h
    · exact fNS_lt m _ (fNx_lt h)
/-- pushed -/
theorem inRide.push {P : gP} {r i b : Nat} {l : List Nat} (h : inRide P r) (hi : i < pnT P r) (hb : pI P 5 r i 3 = nI b) (hbn : b < pnB P r) (hs : pI P 5 r i 5 = 120) : inTr (fStand P r i l (nI (fNS P r (pnB P r) (fNx (pnB P r) b)))) r i ∧ ∀ j, j < pnT P r → j ≠ i → pI (fStand P r i l (nI (fNS P r (pnB P r) (fNx (pnB P r) b)))) 5 r i 6 &&& pI P 5 r j 6 = 0 := by
  obtain ⟨-, m, hm, h1, h2⟩ := h.way hi hb hbn (Or.inr hs)
  obtain ⟨g1, g2⟩ := fNS_way (pnB P r) (fNx (pnB P r) b) m hm h1 h2
  exact h.stand hi (fNS_lt _ _ (fNx_lt hbn)) g1 g2
/-- moved -/
theorem inB.mv {P Q : gP} {r i b : Nat} {l : List Nat} (h : inB P) (hr : r < pnR P) (hi : i < pnT P r) (hb : pI P 5 r i 3 = nI b) (hbn : b < pnB P r) (hs : pI P 5 r i 5 = 109) (hm : mvRel P Q r i b l) : inB Q := by
  have hR := h.2 r hr
  have hw := hR.way hi hb hbn (Or.inl hs)
  have hA := hR.2.2.2.2.2
  obtain ⟨hse, -⟩ := hR.tr hi hb hbn
  rcases hm with rfl | rfl | ⟨hst, rfl⟩ | ⟨hst, e, c, f, rfl⟩
  · have t : tOnly P (uI P 5 r i 7 0) r i := tOnly.uI5
    have e : ∀ j, j ≠ 7 → pI (uI P 5 r i 7 0) 5 r i j = pI P 5 r i j := fun j hj => pI_us hj
    refine h.upd t ⟨⟨b, by rw [t.1.2.1]; exact hbn, by rw [e 3 (by decide)]; exact hb, by rw [e 0 (by decide)]; exact hse, Or.inr ⟨Or.inl (by rw [e 5 (by decide)]; exact hs), by rw [e 6 (by decide)]; exact t.way hw⟩⟩, fun j hj hn => by rw [e 6 (by decide)]; exact hA i j hi hj hn⟩
  · have t : tOnly P (uI P 5 r i 5 120) r i := tOnly.uI5
    have e : ∀ j, j ≠ 5 → pI (uI P 5 r i 5 120) 5 r i j = pI P 5 r i j := fun j hj => pI_us hj
    refine h.upd t ⟨⟨b, by rw [t.1.2.1]; exact hbn, by rw [e 3 (by decide)]; exact hb, by rw [e 0 (by decide)]; exact hse, Or.inr ⟨Or.inr (by simp [pI_uI]), by rw [e 6 (by decide)]; exact t.way hw⟩⟩, fun j hj hn => by rw [e 6 (by decide)]; exact hA i j hi hj hn⟩
  · have hbit : ¬ pI P 5 r i 6 &&& (1 <<< (nI (fNx (pnB P r) b) &&& 31)) = 0 := by
      obtain ⟨-, m, -, -, h2⟩ := hw
      exact h2 0 (Nat.zero_le _)
    exact h.upd tOnly.stand (hR.stand hi (fNx_lt hbn) hst hbit)
  · have t : tOnly P (uI (uI (uI (uI P 5 r i 3 (nI (fNx (pnB P r) b))) 5 r i 4 e) 5 r i 7 c) 5 r i 8 f) r i := ((tOnly.uI5.trans tOnly.uI5).trans tOnly.uI5).trans tOnly.uI5
    refine h.upd t ⟨⟨fNx (pnB P r) b, by rw [t.1.2.1]; exact fNx_lt hbn, by simp [pI_uI], by simp [pI_uI]; exact hse, Or.inr ⟨Or.inl (by simp [pI_uI]; exact hs), ?_⟩⟩, fun j hj hn => ?_⟩
    · have e6 : pI (uI (uI (uI (uI P 5 r i 3 (nI (fNx (pnB P r) b))) 5 r i 4 e) 5 r i 7 c) 5 r i 8 f) 5 r i 6 = pI P 5 r i 6 := by simp [pI_uI]
      rw [e6]
      exact t.way (hw.step hst)
    · have e6 : pI (uI (uI (uI (uI P 5 r i 3 (nI (fNx (pnB P r) b))) 5 r i 4 e) 5 r i 7 c) 5 r i 8 f) 5 r i 6 = pI P 5 r i 6 := by simp [pI_uI]
      rw [e6]
      exact hA i j hi hj hn
/-- sent on its way -/
theorem inB.go {P : gP} {r i b : Nat} {w : Int32} (h : inB P) (hr : r < pnR P) (hi : i < pnT P r) (hb : pI P 5 r i 3 = nI b) (hbn : b < pnB P r) (hs : pI P 5 r i 5 = 115) (hk : fKS P r i b w = 46) : inB (fGo P r i (fPath P r (pnB P r) b 0)) := by
  have hR := h.2 r hr
  obtain ⟨⟨hB, hT, -⟩, hcl, hc, -, -, hA⟩ := hR
  obtain ⟨hse, hx⟩ := (h.2 r hr).tr hi hb hbn
  have hheld : pI P 5 r i 6 = 1 <<< (nI b &&& 31) := by
    rcases hx with hx | ⟨hx, -⟩
    · exact hx.2.2.1
    · rcases hx with e | e <;> exact absurd (hs.symm.trans e) (by decide)
  have h0 : fStop P r 0 = true := by
    unfold fStop
    rw [(hcl (hc (by omega))).2]
    rfl
  have t : tOnly P (fGo P r i (fPath P r (pnB P r) b 0)) r i := tOnly.go
  have e : ∀ s, pI (fGo P r i (fPath P r (pnB P r) b 0)) 5 r i s = if s = 5 then 109 else if s = 6 then pI P 5 r i 6 ||| fPath P r (pnB P r) b 0 else if s = 8 ∧ pI P 5 r i 3 = 0 then 0 else pI P 5 r i s := fun s => by rw [pI_go, if_pos ⟨rfl, rfl⟩]
  have e6 : pI (fGo P r i (fPath P r (pnB P r) b 0)) 5 r i 6 = pI P 5 r i 6 ||| fPath P r (pnB P r) b 0 := by rw [e]; rfl
  refine h.upd t ⟨⟨b, by rw [t.1.2.1]; exact hbn, by rw [e]; simp [hb], by rw [e]; simp; exact hse, Or.inr ⟨Or.inl (by rw [e]; rfl), ?_⟩⟩, fun j hj hn => ?_⟩
  · rw [e6, hheld]
    exact t.way (onWay.go hB hbn h0)
  · rw [e6, Int32.and_comm]
    exact i_and0 (hA j i hj hi (fun e => hn e.symm)) (fKS_free hk j hj (by omega) hn)
/-- what isSound asks of the holds -/
theorem inB.holds {P : gP} (h : inB P) : ∀ r, r < pnR P → ∀ i, i < pnT P r → ¬ pI P 5 r i 6 &&& (1 <<< (pI P 5 r i 3 &&& 31)) = 0 ∧ ∀ j, j < pnT P r → j ≠ i → pI P 5 r i 6 &&& pI P 5 r j 6 = 0 := by
  intro r hr i hi
  have hR := h.2 r hr
  refine ⟨?_, fun j hj hn => hR.2.2.2.2.2 i j hi hj hn⟩
  obtain ⟨b, hbn, hb, -, hc⟩ := hR.2.2.2.2.1 i hi
  have hB := hR.1.1
  rw [hb]
  rcases hc with ⟨-, -, h6, -⟩ | ⟨-, hw⟩
  · rw [h6]
    exact bit_self (by omega)
  · exact hw.1
/-- no two trains are in one block -/
theorem inB.apart {P : gP} (h : inB P) {r i j : Nat} (hr : r < pnR P) (hi : i < pnT P r) (hj : j < pnT P r) (hn : j ≠ i) : pI P 5 r i 3 ≠ pI P 5 r j 3 := by
  intro e
  obtain ⟨h1, h2⟩ := h.holds r hr i hi
  have h3 := (h.holds r hr j hj).1
  obtain ⟨b, hbn, hb, -, -⟩ := (h.2 r hr).2.2.2.2.1 i hi
  have hB := (h.2 r hr).1.1
  rw [← e, hb] at h3
  rw [hb] at h1
  have h4 := one_bit (by omega) h1 (h2 j hj hn)
  rw [Int32.and_comm] at h4
  exact h3 h4
end GRIDES
