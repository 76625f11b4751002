/-! the invariant whole, and what it gives; what all calls of the law's loop keep -/
section GWHOLE
def Inv (P : gP) : Prop := inB P ∧ inC P
theorem pI_addR {P : gP} {a b c : Int32} {k r i s : Nat} : pI (fAddR P a b c) k r i s = if k = 2 ∧ r = pnR P ∧ i = 2 ∧ s = 1 then 0 else if k = 2 ∧ r = pnR P ∧ i = 1 ∧ s = 1 then 0 else if k = 2 ∧ r = pnR P ∧ i = 0 ∧ s = 1 then 0 else if k = 4 ∧ r = pnR P ∧ i = 0 ∧ s = 2 then 0 else if k = 3 ∧ r = pnR P ∧ i = 0 then [a, b, c, 0, 0, 0, 0, 0, 0, -1, 0, 0, 0, 0, 0].getD s 0 else pI P k r i s := rfl
theorem pPL_addR {P : gP} {a b c : Int32} {r i j : Nat} : pPL (fAddR P a b c) r i j = if r = pnR P ∧ i = 2 then none else if r = pnR P ∧ i = 1 then none else if r = pnR P ∧ i = 0 then none else pPL P r i j := rfl
theorem Inv.addR {P : gP} {a b : Int32} {k : Nat} (h : Inv P) (h4 : pnR P < 4) (hk : k ≤ 99) : Inv (fAddR P a b (nI k)) := by
  have eR : pnR (fAddR P a b (nI k)) = pnR P + 1 := rfl
  have eB : ∀ r, pnB (fAddR P a b (nI k)) r = if r = pnR P then 0 else pnB P r := fun _ => rfl
  have eT : ∀ r, pnT (fAddR P a b (nI k)) r = if r = pnR P then 0 else pnT P r := fun _ => rfl
  have eo : ∀ k' r i s, r ≠ pnR P → pI (fAddR P a b (nI k)) k' r i s = pI P k' r i s := fun k' r i s hr => by
    rw [pI_addR, if_neg (fun e => hr e.2.1), if_neg (fun e => hr e.2.1), if_neg (fun e => hr e.2.1), if_neg (fun e => hr e.2.1), if_neg (fun e => hr e.2.1)]
  have e1 : ∀ g s, pI (fAddR P a b (nI k)) 1 g 0 s = pI P 1 g 0 s := fun g s => by
    rw [pI_addR, if_neg (fun e => absurd e.1 (by decide)), if_neg (fun e => absurd e.1 (by decide)), if_neg (fun e => absurd e.1 (by decide)), if_neg (fun e => absurd e.1 (by decide)), if_neg (fun e => absurd e.1 (by decide))]
  refine ⟨⟨by rw [eR]; exact h4, fun r hr => ?_⟩, h.2.pre (by rw [eR]; exact Nat.le_succ _) (by rw [eR]; exact h4) (fun r hr => ?_) rfl (fun _ => rfl) (fun _ => rfl) e1 (fun LL RR hw => ?_)⟩
  · by_cases e : r = pnR P
    · subst e
      refine ⟨⟨by rw [eB, if_pos rfl]; decide, by rw [eT, if_pos rfl]; decide, fun b' hb' => ?_⟩, fun hh => absurd ?_ hh, fun hh => ?_, ⟨k, hk, ?_⟩, fun i hi => ?_, fun i j hi _ _ => ?_⟩
      · rw [eB, if_pos rfl] at hb'; exact absurd hb' (by omega)
      · rw [pI_addR, if_neg (fun e => absurd e.1 (by decide)), if_neg (fun e => absurd e.1 (by decide)), if_neg (fun e => absurd e.1 (by decide)), if_pos ⟨rfl, rfl, rfl, rfl⟩]
      · rw [eT, if_pos rfl] at hh; exact absurd hh (by decide)
      · rw [pI_addR, if_neg (fun e => absurd e.1 (by decide)), if_neg (fun e => absurd e.1 (by decide)), if_neg (fun e => absurd e.1 (by decide)), if_neg (fun e => absurd e.1 (by decide)), if_pos ⟨rfl, rfl, rfl⟩]; rfl
      · rw [eT, if_pos rfl] at hi; exact absurd hi (by omega)
      · rw [eT, if_pos rfl] at hi; exact absurd hi (by omega)
    · have hr' : r < pnR P := by rw [eR] at hr; omega
      have eBr : pnB (fAddR P a b (nI k)) r = pnB P r := by rw [eB, if_neg e]
      have eTr : pnT (fAddR P a b (nI k)) r = pnT P r := by rw [eT, if_neg e]
      have est : ∀ b', fStop (fAddR P a b (nI k)) r b' = fStop P r b' := fun b' => by unfold fStop; rw [eo _ _ _ _ e]
      obtain ⟨⟨h1, h2, h3⟩, h4', h5, h6, h7, h8⟩ := h.1.2 r hr'
      refine ⟨⟨by rw [eBr]; exact h1, by rw [eTr]; exact h2, fun b' hb' => by rw [eo _ _ _ _ e, eo _ _ _ _ e]; exact h3 b' (by rw [← eBr]; exact hb')⟩, by rw [eo _ _ _ _ e, eo _ _ _ _ e, eBr]; exact h4', by rw [eo _ _ _ _ e, eTr]; exact h5, by rw [eo _ _ _ _ e]; exact h6, fun i hi => ?_, fun i j hi hj hn => ?_⟩
      · rw [eTr] at hi
        obtain ⟨b', hb, g1, g2, g3⟩ := h7 i hi
        refine ⟨b', by rw [eBr]; exact hb, by rw [eo _ _ _ _ e]; exact g1, by rw [eo _ _ _ _ e]; exact g2, ?_⟩
        rw [eo _ _ _ _ e, eo _ _ _ _ e, eo _ _ _ _ e, eo _ _ _ _ e, est]
        rcases g3 with g3 | ⟨g3, g4⟩
        · exact Or.inl g3
        · refine Or.inr ⟨g3, ?_⟩
          unfold onWay at g4 ⊢
          rw [eBr]
          simp only [est]
          exact g4
      · rw [eTr] at hi hj
        rw [eo _ _ _ _ e, eo _ _ _ _ e]
        exact h8 i j hi hj hn
  · rw [eT]
    split
    · decide
    · next e => exact h.2.1.2.1 r (by rw [eR] at hr; omega)
  · refine ⟨fun r q hr hq => ?_, fun r q hr => hw.2.1 r q (fun e => hr (by rw [eR]; exact Nat.lt_succ_of_lt e)), fun r i hr hi => ?_, fun r i hn => hw.2.2.2 r i (fun e => hn ⟨by rw [eR]; exact Nat.lt_succ_of_lt e.1, by rw [eT, if_neg (Nat.ne_of_lt e.1)]; exact e.2⟩)⟩
    · by_cases e : r = pnR P
      · subst e
        rw [hw.2.1 _ _ (Nat.lt_irrefl _)]
        have hz : pI (fAddR P a b (nI k)) 2 (pnR P) q 1 = 0 ∧ ∀ j, pPL (fAddR P a b (nI k)) (pnR P) q j = none := by
          rcases (show q = 0 ∨ q = 1 ∨ q = 2 by omega) with rfl | rfl | rfl <;> exact ⟨by rw [pI_addR]; simp, fun j => by rw [pPL_addR]; simp⟩
        exact ⟨hz.1, fun j => by rw [hz.2]; rfl, by simp, fun g hg => absurd hg List.not_mem_nil⟩
      · obtain ⟨a1, a2, a3, a4⟩ := hw.1 r q (by rw [eR] at hr; omega) hq
        exact ⟨by rw [eo _ _ _ _ e]; exact a1, fun j => by rw [pPL_addR, if_neg (fun x => e x.1), if_neg (fun x => e x.1), if_neg (fun x => e x.1)]; exact a2 j, a3, a4⟩
    · by_cases e : r = pnR P
      · rw [eT, if_pos e] at hi; exact absurd hi (by omega)
      · rw [eT, if_neg e] at hi
        obtain ⟨a1, a2, a3, a4⟩ := hw.2.2.1 r i (by rw [eR] at hr; omega) hi
        exact ⟨by rw [eo _ _ _ _ e]; exact a1, a2, a3, a4⟩
theorem Inv.wf {P : gP} (h : Inv P) : Wf P := by
  obtain ⟨hB, ⟨hn1, hn2, hn3⟩, LL, RR, m, p, hw, hgs, -⟩ := h
  refine ⟨⟨hn1, hn3⟩, fun r hr => ?_, fun g hg => ?_⟩
  · obtain ⟨⟨h1, h2, h3⟩, h4, h5, h6, h7, h8⟩ := hB.2 r hr
    refine ⟨⟨h1, h2, h3, fun hh => by have := (h4 hh).1; omega⟩, fun i hi => ?_, fun q hq => ⟨_, hw.1 r q hr hq⟩⟩
    obtain ⟨b, hb, g1, -, g3⟩ := h7 i hi
    refine ⟨⟨b, hb, g1⟩, ⟨_, hw.2.2.1 r i hr hi⟩, ?_⟩
    rcases g3 with ⟨g3, -⟩ | ⟨g3 | g3, -⟩ <;> rw [g3] <;> exact ⟨rfl, rfl⟩
  · rcases (hgs g hg).1 with e | e | e | e <;> rw [e] <;> exact ⟨rfl, rfl⟩
theorem Inv.mv {P Q : gP} {r i b : Nat} {l : List Nat} (h : Inv P) (hr : r < pnR P) (hi : i < pnT P r) (hb : pI P 5 r i 3 = nI b) (hbn : b < pnB P r) (hs : pI P 5 r i 5 = 109) (hT : Tr P r i l) (hm : mvRel P Q r i b l) : Inv Q := ⟨h.1.mv hr hi hb hbn hs hm, h.2.mv hr hi hT hm⟩
theorem Inv.go {P : gP} {r i b : Nat} {w : Int32} (h : Inv P) (hr : r < pnR P) (hi : i < pnT P r) (hb : pI P 5 r i 3 = nI b) (hbn : b < pnB P r) (hs : pI P 5 r i 5 = 115) (hk : fKS P r i b w = 46) : Inv (fGo P r i (fPath P r (pnB P r) b 0)) := ⟨h.1.go hr hi hb hbn hs hk, h.2.go⟩
theorem Inv.push {P : gP} {r i b : Nat} {l : List Nat} (h : Inv P) (hr : r < pnR P) (hi : i < pnT P r) (hb : pI P 5 r i 3 = nI b) (hbn : b < pnB P r) (hs : pI P 5 r i 5 = 120) (hT : Tr P r i l) : Inv (fStand P r i l (nI (fNS P r (pnB P r) (fNx (pnB P r) b)))) := ⟨h.1.upd tOnly.stand ((h.1.2 r hr).push hi hb hbn hs), h.2.stand hr hi hT⟩
theorem Inv.kI {P : gP} {k r i s : Nat} {v : Int32} (h : Inv P) (hk : (k ≠ 0 ∧ k ≠ 5 ∧ ¬ (k = 3 ∧ s = 2) ∧ k ≠ 4) ∧ ¬ (k = 1 ∧ (s = 0 ∨ s = 3 ∨ s = 4 ∨ s = 6 ∨ s = 10)) ∧ ¬ (k = 2 ∧ s = 1) ∧ ¬ (k = 5 ∧ s = 2)) : Inv (uI P k r i s v) := ⟨h.1.none (tNone.uI hk.1), h.2.kI hk.2⟩
theorem Inv.rest {P : gP} {g : Nat} (h : Inv P) (hg : g < pnG P) (h0 : 0 < pI P 1 g 0 4) : Inv (uI P 1 g 0 4 (pI P 1 g 0 4 - 1)) := ⟨h.1.none (tNone.uI (by decide)), h.2.rest hg h0⟩
theorem Inv.join {P : gP} {g r q k : Nat} {l : List Nat} (h : Inv P) (hg : g < pnG P) (h112 : pI P 1 g 0 6 = 112) (hr : r < pnR P) (hq : q < 3) (hk : k ≤ 99) (hmon : ¬ pI P 1 g 0 0 < nI k) (hL : Ln P r q l) : Inv (uJ (fJoin P g r q l (nI k)) 11 (pJ P 11 + (nI k).toInt64)) :=
  ⟨h.1.none (((((tNone.sLn.trans tNone.uGL).trans (tNone.uI (by decide))).trans (tNone.uI (by decide))).trans (tNone.uI (by decide))).trans tNone.uJ), h.2.join hg h112 hr hq hk hmon hL⟩
theorem Inv.leave {P : gP} {g r q : Nat} {l : List Nat} (h : Inv P) (hg : g < pnG P) (h113 : pI P 1 g 0 6 = 113) (hgl : pGL P g = some (r, q)) (hL : Ln P r q l) : Inv (uJ (fLeave P g r q l) 11 (pJ P 11 - (pI P 1 g 0 10).toInt64)) :=
  ⟨h.1.none ((((tNone.sLn.trans tNone.uGL).trans (tNone.uI (by decide))).trans (tNone.uI (by decide))).trans tNone.uJ), h.2.leave hg h113 hgl hL⟩
theorem Inv.out {P : gP} {g : Nat} (h : Inv P) (hg : g < pnG P) (h112 : pI P 1 g 0 6 = 112) : Inv (uJ (uI P 1 g 0 6 111) 12 (pJ P 12 + (pI P 1 g 0 0).toInt64)) := ⟨h.1.none ((tNone.uI (by decide)).trans tNone.uJ), h.2.out hg h112⟩
theorem Inv.eat {P : gP} {g : Nat} (h : Inv P) (hg : g < pnG P) (h112 : pI P 1 g 0 6 = 112) (hm5 : ¬ pI P 1 g 0 0 < 5) : Inv (uJ (fMeal P g) 11 (pJ P 11 + 5)) := ⟨h.1.none ((((tNone.uI (by decide)).trans (tNone.uI (by decide))).trans (tNone.uI (by decide))).trans tNone.uJ), h.2.eat hg h112 hm5⟩
theorem Inv.enter {P : gP} {k : Nat} {y z : Int32} (h : Inv P) (h60 : pnG P < 60) (hk : k ≤ 999) : Inv (fEnter P (nI k) y z) := ⟨h.1.enter, h.2.enter h60 hk⟩
theorem Inv.addT {P : gP} {r : Nat} {v : Int32} (h : Inv P) (hr : r < pnR P) (h4 : pnT P r < 4) (hv : ¬ v < 1 ∧ ¬ 8 < v) (hcl : ¬ pI P 4 r 0 2 = 0) (hfr : ∀ i, i < pnT P r → pI P 5 r i 6 &&& (1 <<< ((0 : Int32) &&& 31)) = 0) : Inv (fAddT P r v) := ⟨h.1.addT hr h4 hv hcl hfr, h.2.addT hr h4⟩
theorem Inv.addB {P : gP} {r : Nat} {a b c d : Int32} (h : Inv P) (hr : r < pnR P) (h0 : pI P 4 r 0 2 = 0) (h12 : pnB P r < 12) : Inv (fAddB P r a b c d) := ⟨h.1.addB hr h0 h12, h.2.addB⟩
theorem Inv.seat {P : gP} {g r q i idx : Nat} {l t : List Nat} (h : Inv P) (hr : r < pnR P) (hi : i < pnT P r) (hq : q < 3) (hs : pI P 5 r i 5 = 109) (hL : Ln P r q l) (hx : l[idx]? = some g) (hT : Tr P r i t) (ht : t.length < 8) : Inv (fSeat (sLn P r q (l.eraseIdx idx)) r i t g) := by
  refine ⟨?_, h.2.board hr hi hq hL hx hT ht⟩
  have e5 : ∀ r' i' s, s ≠ 2 → pI (fSeat (sLn P r q (l.eraseIdx idx)) r i t g) 5 r' i' s = pI P 5 r' i' s := fun r' i' s hs => by simp [fSeat, fAboard, pI_uI, pI_uGL, pI_sTr, pI_sLn, hs]
  have tt : tOnly P (fSeat (sLn P r q (l.eraseIdx idx)) r i t g) r i := ⟨⟨rfl, fun _ => rfl, fun _ => rfl⟩, fun _ _ _ => by simp [fSeat, fAboard, pI_uI, pI_uGL, pI_sTr, pI_sLn], fun _ => by simp [fSeat, fAboard, pI_uI, pI_uGL, pI_sTr, pI_sLn], fun _ => by simp [fSeat, fAboard, pI_uI, pI_uGL, pI_sTr, pI_sLn], fun r' i' s hn => by
    have hn' : ¬ (r' = r ∧ i' = i ∧ s = 2) := fun e => hn ⟨e.1, e.2.1⟩
    simp [fSeat, fAboard, pI_uI, pI_uGL, pI_sTr, pI_sLn, hn']⟩
  obtain ⟨b, hb, g1, g2, g3⟩ := (h.1.2 r hr).2.2.2.2.1 i hi
  refine h.1.upd tt ⟨⟨b, hb, by rw [e5 _ _ _ (by decide)]; exact g1, by rw [e5 _ _ _ (by decide)]; exact g2, Or.inr ⟨Or.inl (by rw [e5 _ _ _ (by decide)]; exact hs), ?_⟩⟩, fun j hj hn => by rw [e5 _ _ _ (by decide)]; exact (h.1.2 r hr).2.2.2.2.2 i j hi hj hn⟩
  rw [e5 _ _ _ (by decide)]
  exact tt.way ((h.1.2 r hr).way hi g1 hb (Or.inl hs))
theorem inB.chr {P : gP} {r b s : Nat} {w : Int32} (h : inB P) (hs : s = 4 ∨ s = 5) (hw : gChr w) : inB (uI P 0 r b s w) := by
  have e0 : ∀ r' b', pI (uI P 0 r b s w) 0 r' b' 0 = pI P 0 r' b' 0 := fun r' b' => by rw [pI_uI, if_neg (fun e => by have := e.2.2.2; omega)]
  have ek : ∀ k r' i s', k ≠ 0 → pI (uI P 0 r b s w) k r' i s' = pI P k r' i s' := fun k r' i s' hk => by rw [pI_uI, if_neg (fun e => hk e.1)]
  have est : ∀ r' b', fStop (uI P 0 r b s w) r' b' = fStop P r' b' := fun r' b' => by unfold fStop; rw [e0]
  refine ⟨h.1, fun r' hr' => ?_⟩
  obtain ⟨⟨h1, h2, h3⟩, h4, h5, h6, h7, h8⟩ := h.2 r' hr'
  refine ⟨⟨h1, h2, fun b' hb' => ?_⟩, by rw [ek _ _ _ _ (by decide), e0]; exact h4, by rw [ek _ _ _ _ (by decide)]; exact h5, by rw [ek _ _ _ _ (by decide)]; exact h6, fun i hi => ?_, fun i j hi hj hn => by rw [ek _ _ _ _ (by decide), ek _ _ _ _ (by decide)]; exact h8 i j hi hj hn⟩
  · have h3' := h3 b' hb'
    simp only [pI_uI]
    refine ⟨?_, ?_⟩ <;> split <;> first | exact hw | exact h3'.1 | exact h3'.2
  · obtain ⟨b', hb, g1, g2, g3⟩ := h7 i hi
    refine ⟨b', hb, by rw [ek _ _ _ _ (by decide)]; exact g1, by rw [ek _ _ _ _ (by decide)]; exact g2, ?_⟩
    rw [ek _ _ _ _ (by decide), ek _ _ _ _ (by decide), ek _ _ _ _ (by decide), ek _ _ _ _ (by decide), est]
    rcases g3 with g3 | ⟨g3, g4⟩
    · exact Or.inl g3
    · refine Or.inr ⟨g3, ?_⟩
      unfold onWay at g4 ⊢
      simp only [est]
      exact g4
theorem Inv.sns {P : gP} {r b : Nat} {p w : Int32} (h : Inv P) (hw : gChr w) : Inv (fSns P r b p w) := by
  unfold fSns
  split
  · exact ⟨h.1.chr (Or.inl rfl) hw, h.2.kI (by decide)⟩
  · exact ⟨h.1.chr (Or.inr rfl) hw, h.2.kI (by decide)⟩
theorem Inv.close {P : gP} {r : Nat} (h : Inv P) (h0 : pI P 4 r 0 2 = 0) (hb4 : 4 ≤ pnB P r) (hk : pI P 0 r 0 0 = 115) : Inv (uI P 4 r 0 2 1) := by
  refine ⟨⟨h.1.1, fun r' hr' => ?_⟩, h.2.kI (by decide)⟩
  have ek : ∀ k r' i s', k ≠ 4 → pI (uI P 4 r 0 2 1) k r' i s' = pI P k r' i s' := fun k r' i s' hk => by rw [pI_uI, if_neg (fun e => hk e.1)]
  have est : ∀ r' b', fStop (uI P 4 r 0 2 1) r' b' = fStop P r' b' := fun r' b' => by unfold fStop; rw [ek _ _ _ _ (by decide)]
  obtain ⟨⟨h1, h2, h3⟩, h4, h5, h6, h7, h8⟩ := h.1.2 r' hr'
  refine ⟨⟨h1, h2, fun b' hb' => by rw [ek _ _ _ _ (by decide), ek _ _ _ _ (by decide)]; exact h3 b' hb'⟩, fun hh => ?_, fun hh => ?_, by rw [ek _ _ _ _ (by decide)]; exact h6, fun i hi => ?_, fun i j hi hj hn => by rw [ek _ _ _ _ (by decide), ek _ _ _ _ (by decide)]; exact h8 i j hi hj hn⟩
  · rw [ek _ _ _ _ (by decide)]
    by_cases e : r' = r
    · subst e; exact ⟨hb4, hk⟩
    · rw [pI_uI, if_neg (fun x => e x.2.1)] at hh
      exact h4 hh
  · by_cases e : r' = r
    · subst e; rw [pI_uI, if_pos ⟨rfl, rfl, rfl, rfl⟩]; decide
    · rw [pI_uI, if_neg (fun x => e x.2.1)]
      exact h5 hh
  · obtain ⟨b', hb, g1, g2, g3⟩ := h7 i hi
    refine ⟨b', hb, by rw [ek _ _ _ _ (by decide)]; exact g1, by rw [ek _ _ _ _ (by decide)]; exact g2, ?_⟩
    rw [ek _ _ _ _ (by decide), ek _ _ _ _ (by decide), ek _ _ _ _ (by decide), ek _ _ _ _ (by decide), est]
    rcases g3 with g3 | ⟨g3, g4⟩
    · exact Or.inl g3
    · refine Or.inr ⟨g3, ?_⟩
      unfold onWay at g4 ⊢
      simp only [est]
      exact g4
end GWHOLE
