/-! the invariant is kept by what is added, closed, told; the invariant whole -/
section GADDS
theorem ctL_none {LL : Nat → Nat → List Nat} {g : Nat} (h : ∀ r q, q < 3 → (LL r q).count g = 0) : ∀ k, ctL LL g k = 0
  | 0 => rfl
  | k + 1 => by
    unfold ctL
    rw [ctL_none h k, h k 0 (by decide), h k 1 (by decide), h k 2 (by decide)]
theorem ctT_none {R : Nat → List Nat} {g : Nat} (h : ∀ q, (R q).count g = 0) : ∀ k, ctT R g k = 0
  | 0 => rfl
  | k + 1 => by
    unfold ctT
    rw [ctT_none h k, h k]
theorem ctR_none {LL : Nat → Nat → List Nat} {g : Nat} (h : ∀ r q, (LL r q).count g = 0) : ∀ k, ctR LL g k = 0
  | 0 => rfl
  | k + 1 => by
    unfold ctR
    rw [ctR_none h k, ctT_none (h k)]
theorem pI_enter {P : gP} {x y z : Int32} {k r i s : Nat} : pI (fEnter P x y z) k r i s = if k = 1 ∧ r = pnG P ∧ i = 0 then [x, y, z, 0, 0, 0, 112, -1, 0, 0, 0].getD s 0 else pI P k r i s := rfl
theorem inC.enter {P : gP} {k : Nat} {y z : Int32} (h : inC P) (h60 : pnG P < 60) (hk : k ≤ 999) : inC (fEnter P (nI k) y z) := by
  obtain ⟨⟨hn1, hn2, hn3⟩, LL, RR, m, p, hw, hgs, b, ti, to, h1, h2, h3, h4, h5, h6⟩ := h
  have eG : pnG (fEnter P (nI k) y z) = pnG P + 1 := rfl
  have e1 : ∀ g s, g ≠ pnG P → pI (fEnter P (nI k) y z) 1 g 0 s = pI P 1 g 0 s := fun g s hg => by rw [pI_enter, if_neg (fun e => hg e.2.1)]
  have e0 : ∀ s, pI (fEnter P (nI k) y z) 1 (pnG P) 0 s = [nI k, y, z, 0, 0, 0, 112, -1, 0, 0, 0].getD s 0 := fun s => by rw [pI_enter, if_pos ⟨rfl, rfl, rfl⟩]
  have eGL : ∀ g, pGL (fEnter P (nI k) y z) g = if g = pnG P then none else pGL P g := fun g => rfl
  refine ⟨⟨hn1, hn2, by rw [eG]; exact h60⟩, LL, RR, updF m (pnG P) k, updF p (pnG P) 0, ?_, fun g hg => ?_, b + k, ti, to, ?_, h2, h3, by rw [eG]; omega, ?_, ?_⟩
  · refine ⟨fun r q hr hq => ?_, hw.2.1, fun r i hr hi => ?_, hw.2.2.2⟩
    · obtain ⟨a1, a2, a3, a4⟩ := hw.1 r q hr hq
      exact ⟨by rw [pI_enter, if_neg (fun e => absurd e.1 (by decide))]; exact a1, a2, a3, fun g hg => Nat.lt_succ_of_lt (a4 g hg)⟩
    · obtain ⟨a1, a2, a3, a4⟩ := hw.2.2.1 r i hr hi
      exact ⟨by rw [pI_enter, if_neg (fun e => absurd e.1 (by decide))]; exact a1, a2, a3, fun g hg => Nat.lt_succ_of_lt (a4 g hg)⟩
  · by_cases e : g = pnG P
    · subst e
      have hl : ∀ r q, q < 3 → (LL r q).count (pnG P) = 0 := fun r q hq => by
        by_cases hr : r < pnR P
        · exact List.count_eq_zero.mpr (fun hm => Nat.lt_irrefl _ ((hw.1 r q hr hq).2.2.2 _ hm))
        · rw [hw.2.1 r q hr]; rfl
      have hr : ∀ r i, (RR r i).count (pnG P) = 0 := fun r i => by
        by_cases hi : r < pnR P ∧ i < pnT P r
        · exact List.count_eq_zero.mpr (fun hm => Nat.lt_irrefl _ ((hw.2.2.1 r i hi.1 hi.2).2.2.2 _ hm))
        · rw [hw.2.2.2 r i hi]; rfl
      unfold inG
      rw [e0, e0, e0, e0, e0, eGL, if_pos rfl, updF_s, updF_s, ctL_none hl, ctR_none hr]
      exact ⟨Or.inl rfl, ⟨rfl, by omega⟩, ⟨⟨0, by omega, rfl⟩, (by decide : ¬ (99 : Int32) < 0)⟩, ⟨rfl, rfl⟩, fun hh => absurd hh (by decide : ¬ (112 : Int32) = 113), fun _ => rfl, fun q hq => by cases hq⟩
    · have hg' : g < pnG P := by rw [eG] at hg; omega
      exact (hgs g hg').other (fun s _ => e1 g s e) (by rw [eGL, if_neg e]) (Nat.le_refl _) (updF_n e) (updF_n e) (fun _ _ => rfl) (fun _ _ => rfl)
  · show pJ P 10 + (nI k).toInt64 = _
    rw [h1, nI_l (by omega), lN_add]
  · rw [eG]
    show b + k = sumN (pnG P) (wIn (fEnter P (nI k) y z) (updF m (pnG P) k)) + wIn (fEnter P (nI k) y z) (updF m (pnG P) k) (pnG P) + ti + to
    rw [sumN_ext (g := wIn P m) (fun j hj => wIn_same (e1 j 6 (Nat.ne_of_lt hj)) (updF_n (Nat.ne_of_lt hj)))]
    have : wIn (fEnter P (nI k) y z) (updF m (pnG P) k) (pnG P) = k := by
      unfold wIn
      rw [e0, updF_s]
      rfl
    rw [this]
    omega
  · rw [eG]
    show sumN (pnG P) (updF p (pnG P) 0) + updF p (pnG P) 0 (pnG P) ≤ ti
    rw [sumN_ext (g := p) (fun j hj => updF_n (Nat.ne_of_lt hj)), updF_s]
    exact h6
theorem inB.enter {P : gP} {x y z : Int32} (h : inB P) : inB (fEnter P x y z) := h.none ⟨⟨rfl, fun _ => rfl, fun _ => rfl⟩, fun _ _ _ => by rw [pI_enter, if_neg (fun e => absurd e.1 (by decide))], fun _ => by rw [pI_enter, if_neg (fun e => absurd e.1 (by decide))], fun _ => by rw [pI_enter, if_neg (fun e => absurd e.1 (by decide))], fun _ _ _ => by rw [pI_enter, if_neg (fun e => absurd e.1 (by decide))]⟩
theorem inC.pre {P Q : gP} (h : inC P) (eR : pnR P ≤ pnR Q) (eR4 : pnR Q ≤ 4) (eT4 : ∀ r, r < pnR Q → pnT Q r ≤ 4) (eG : pnG Q = pnG P) (eJ : ∀ s, pJ Q s = pJ P s) (eGL : ∀ g, pGL Q g = pGL P g) (e1 : ∀ g s, pI Q 1 g 0 s = pI P 1 g 0 s) (hW : ∀ LL RR, Wit P LL RR → Wit Q LL RR) : inC Q := by
  obtain ⟨⟨hn1, hn2, hn3⟩, LL, RR, m, p, hw, hgs, b, ti, to, h1, h2, h3, h4, h5, h6⟩ := h
  refine ⟨⟨eR4, eT4, by rw [eG]; exact hn3⟩, LL, RR, m, p, hW LL RR hw, fun g hg => (hgs g (by rw [← eG]; exact hg)).other (fun s _ => e1 g s) (eGL g) eR rfl rfl (fun _ _ => rfl) (fun _ _ => rfl), b, ti, to, by rw [eJ]; exact h1, by rw [eJ]; exact h2, by rw [eJ]; exact h3, by rw [eG]; exact h4, ?_, by rw [eG]; exact h6⟩
  rw [eG, h5, sumN_ext (fun j _ => wIn_same (P := P) (Q := Q) (m := m) (m' := m) (e1 j 6) rfl)]
theorem pI_addT {P : gP} {r0 : Nat} {v : Int32} {k r i s : Nat} : pI (fAddT P r0 v) k r i s = if k = 5 ∧ r = r0 ∧ i = pnT P r0 then [v, 0, 0, 0, 0, 115, 1, 0, 0].getD s 0 else pI P k r i s := rfl
theorem pnT_addT {P : gP} {r0 : Nat} {v : Int32} {r : Nat} : pnT (fAddT P r0 v) r = if r = r0 then pnT P r0 + 1 else pnT P r := rfl
theorem inC.addT {P : gP} {r : Nat} {v : Int32} (h : inC P) (hr : r < pnR P) (h4 : pnT P r < 4) : inC (fAddT P r v) := by
  have hn := h.1
  refine h.pre (Nat.le_refl _) hn.1 (fun r' hr' => ?_) rfl (fun _ => rfl) (fun _ => rfl) (fun g s => by rw [pI_addT, if_neg (fun e => absurd e.1 (by decide))]) (fun LL RR hw => ?_)
  · rw [pnT_addT]
    split
    · exact h4
    · exact hn.2.1 r' hr'
  · refine ⟨fun r' q hr' hq => ?_, hw.2.1, fun r' i hr' hi => ?_, fun r' i hn => hw.2.2.2 r' i (fun e => hn ⟨e.1, ?_⟩)⟩
    · obtain ⟨a1, a2, a3, a4⟩ := hw.1 r' q hr' hq
      exact ⟨by rw [pI_addT, if_neg (fun e => absurd e.1 (by decide))]; exact a1, a2, a3, a4⟩
    · rw [pnT_addT] at hi
      by_cases e : r' = r ∧ i = pnT P r
      · obtain ⟨rfl, rfl⟩ := e
        rw [hw.2.2.2 r' (pnT P r') (fun e => Nat.lt_irrefl _ e.2)]
        exact ⟨by rw [pI_addT, if_pos ⟨rfl, rfl, rfl⟩]; rfl, fun j => by show (if r' = r' ∧ pnT P r' = pnT P r' then none else pRD P r' (pnT P r') j) = _; rw [if_pos ⟨rfl, rfl⟩]; rfl, by simp, fun g hg => absurd hg List.not_mem_nil⟩
      · have hi' : i < pnT P r' := by
          by_cases e2 : r' = r
          · rw [if_pos e2] at hi
            subst e2
            exact Nat.lt_of_le_of_ne (Nat.le_of_lt_succ hi) (fun e3 => e ⟨rfl, e3⟩)
          · rw [if_neg e2] at hi
            exact hi
        obtain ⟨a1, a2, a3, a4⟩ := hw.2.2.1 r' i hr' hi'
        exact ⟨by rw [pI_addT, if_neg (fun x => e ⟨x.2.1, x.2.2⟩)]; exact a1, fun j => by show (if r' = r ∧ i = pnT P r then none else pRD P r' i j) = _; rw [if_neg e]; exact a2 j, a3, a4⟩
    · rw [pnT_addT]
      split
      next e2 => subst e2; exact Nat.lt_succ_of_lt e.2
      next => exact e.2
theorem inB.addT {P : gP} {r : Nat} {v : Int32} (h : inB P) (hr : r < pnR P) (h4 : pnT P r < 4) (hv : ¬ v < 1 ∧ ¬ 8 < v) (hcl : ¬ pI P 4 r 0 2 = 0) (hfr : ∀ i, i < pnT P r → pI P 5 r i 6 &&& (1 <<< ((0 : Int32) &&& 31)) = 0) : inB (fAddT P r v) := by
  have t0 : ∀ k' r' i' s, ¬ (k' = 5 ∧ r' = r ∧ i' = pnT P r) → pI (fAddT P r v) k' r' i' s = pI P k' r' i' s := fun k' r' i' s e => by rw [pI_addT, if_neg e]
  have tn : ∀ s, pI (fAddT P r v) 5 r (pnT P r) s = [v, 0, 0, 0, 0, 115, 1, 0, 0].getD s 0 := fun s => by rw [pI_addT, if_pos ⟨rfl, rfl, rfl⟩]
  have est : ∀ r' b, fStop (fAddT P r v) r' b = fStop P r' b := fun r' b => rfl
  refine ⟨h.1, fun r' hr' => ?_⟩
  obtain ⟨⟨h1, h2, h3⟩, h4', h5, h6, h7, h8⟩ := h.2 r' hr'
  by_cases e : r' = r
  · subst e
    obtain ⟨hb4, hk0⟩ := h4' hcl
    have h0 : fStop P r' 0 = true := by
      unfold fStop
      rw [hk0]
      rfl
    have eT : pnT (fAddT P r' v) r' = pnT P r' + 1 := by rw [pnT_addT, if_pos rfl]
    have htr : ∀ i, i < pnT P r' → inTr (fAddT P r' v) r' i := fun i hi => by
      obtain ⟨b, hb, g1, g2, g3⟩ := h7 i hi
      have e : ∀ s, pI (fAddT P r' v) 5 r' i s = pI P 5 r' i s := fun s => t0 5 r' i s (fun e => Nat.ne_of_lt hi e.2.2)
      exact ⟨b, hb, by rw [e]; exact g1, by rw [e]; exact g2, by rw [e 5, e 6, e 4, e 2]; exact g3⟩
    have hv2 : ∃ s, 1 ≤ s ∧ s ≤ 8 ∧ v = nI s := by
      obtain ⟨j, hj, rfl⟩ := nI_of (x := v) (fun e => hv.1 (Int32.lt_trans e (by decide)))
      exact ⟨j, Nat.le_of_not_lt (fun e => hv.1 (nI_lt (b := 1) e (by decide))), Nat.le_of_not_lt (fun e => hv.2 (nI_lt (a := 8) e hj)), rfl⟩
    refine ⟨⟨h1, by rw [eT]; exact h4, h3⟩, h4', fun _ => hcl, h6, fun i hi => ?_, fun i j hi hj hn => ?_⟩
    · rw [eT] at hi
      by_cases e2 : i = pnT P r'
      · subst e2
        refine ⟨0, by show 0 < pnB P r'; omega, by rw [tn]; rfl, ?_, Or.inl ⟨by rw [tn]; rfl, h0, by rw [tn]; exact (by decide : (1 : Int32) = 1 <<< (nI 0 &&& 31)), by rw [tn]; rfl, fun _ => by rw [tn]; rfl⟩⟩
        rw [tn]
        exact hv2
      · exact htr i (by omega)
    · rw [eT] at hi hj
      by_cases e2 : i = pnT P r'
      · subst e2
        rw [tn, t0 5 r' j 6 (fun e => hn e.2.2), Int32.and_comm]
        exact hfr j (by omega)
      · rw [t0 5 r' i 6 (fun e => e2 e.2.2)]
        by_cases e3 : j = pnT P r'
        · subst e3
          rw [tn]
          exact hfr i (by omega)
        · rw [t0 5 r' j 6 (fun e => e3 e.2.2)]
          exact h8 i j (by omega) (by omega) hn
  · have eT : pnT (fAddT P r v) r' = pnT P r' := by rw [pnT_addT, if_neg e]
    have e5 : ∀ i s, pI (fAddT P r v) 5 r' i s = pI P 5 r' i s := fun i s => t0 5 r' i s (fun x => e x.2.1)
    refine ⟨⟨h1, by rw [eT]; exact h2, h3⟩, h4', by rw [eT]; exact h5, h6, fun i hi => ?_, fun i j hi hj hn => ?_⟩
    · rw [eT] at hi
      obtain ⟨b, hb, g1, g2, g3⟩ := h7 i hi
      exact ⟨b, hb, by rw [e5]; exact g1, by rw [e5]; exact g2, by rw [e5, e5, e5, e5]; exact g3⟩
    · rw [eT] at hi hj
      rw [e5, e5]
      exact h8 i j hi hj hn
theorem pI_addB {P : gP} {r0 : Nat} {a b c d : Int32} {k r i s : Nat} : pI (fAddB P r0 a b c d) k r i s = if k = 0 ∧ r = r0 ∧ i = pnB P r0 then [a, b, c, d, 116, 116].getD s 0 else pI P k r i s := rfl
theorem pnB_addB {P : gP} {r0 : Nat} {a b c d : Int32} {r : Nat} : pnB (fAddB P r0 a b c d) r = if r = r0 then pnB P r0 + 1 else pnB P r := rfl
theorem inC.addB {P : gP} {r : Nat} {a b c d : Int32} (h : inC P) : inC (fAddB P r a b c d) :=
  h.pre (Nat.le_refl _) h.1.1 h.1.2.1 rfl (fun _ => rfl) (fun _ => rfl) (fun g s => by rw [pI_addB, if_neg (fun e => absurd e.1 (by decide))]) (fun LL RR hw => ⟨fun r' q hr' hq => by
    obtain ⟨a1, a2, a3, a4⟩ := hw.1 r' q hr' hq
    exact ⟨by rw [pI_addB, if_neg (fun e => absurd e.1 (by decide))]; exact a1, a2, a3, a4⟩, hw.2.1, fun r' i hr' hi => by
    obtain ⟨a1, a2, a3, a4⟩ := hw.2.2.1 r' i hr' hi
    exact ⟨by rw [pI_addB, if_neg (fun e => absurd e.1 (by decide))]; exact a1, a2, a3, a4⟩, hw.2.2.2⟩)
theorem inB.addB {P : gP} {r : Nat} {a b c d : Int32} (h : inB P) (hr : r < pnR P) (h0 : pI P 4 r 0 2 = 0) (h12 : pnB P r < 12) : inB (fAddB P r a b c d) := by
  have t0 : ∀ k' r' i' s, ¬ (k' = 0 ∧ r' = r ∧ i' = pnB P r) → pI (fAddB P r a b c d) k' r' i' s = pI P k' r' i' s := fun k' r' i' s e => by rw [pI_addB, if_neg e]
  have tn : ∀ s, pI (fAddB P r a b c d) 0 r (pnB P r) s = [a, b, c, d, 116, 116].getD s 0 := fun s => by rw [pI_addB, if_pos ⟨rfl, rfl, rfl⟩]
  have t4 : ∀ r', pI (fAddB P r a b c d) 4 r' 0 2 = pI P 4 r' 0 2 := fun r' => t0 _ _ _ _ (fun e => absurd e.1 (by decide))
  have t3 : ∀ r', pI (fAddB P r a b c d) 3 r' 0 2 = pI P 3 r' 0 2 := fun r' => t0 _ _ _ _ (fun e => absurd e.1 (by decide))
  have t5 : ∀ r' i s, pI (fAddB P r a b c d) 5 r' i s = pI P 5 r' i s := fun r' i s => t0 _ _ _ _ (fun e => absurd e.1 (by decide))
  refine ⟨h.1, fun r' hr' => ?_⟩
  obtain ⟨⟨h1, h2, h3⟩, h4', h5, h6, h7, h8⟩ := h.2 r' hr'
  by_cases e : r' = r
  · subst e
    have eT : pnT P r' = 0 := Decidable.byContradiction (fun e => h5 (Nat.pos_of_ne_zero e) h0)
    have eT' : pnT (fAddB P r' a b c d) r' = 0 := eT
    have eB : pnB (fAddB P r' a b c d) r' = pnB P r' + 1 := by rw [pnB_addB, if_pos rfl]
    refine ⟨⟨by rw [eB]; exact h12, by rw [eT']; decide, fun b' hb' => ?_⟩, fun hh => absurd ((t4 r').trans h0) hh, fun hh => ?_, by rw [t3]; exact h6, fun i hi => ?_, fun i j hi _ _ => ?_⟩
    · rw [eB] at hb'
      by_cases e2 : b' = pnB P r'
      · subst e2
        rw [tn, tn]
        exact ⟨⟨rfl, rfl⟩, ⟨rfl, rfl⟩⟩
      · rw [t0 0 r' b' 4 (fun e => e2 e.2.2), t0 0 r' b' 5 (fun e => e2 e.2.2)]
        exact h3 b' (by omega)
    · rw [eT'] at hh; exact absurd hh (by decide)
    · rw [eT'] at hi; exact absurd hi (by omega)
    · rw [eT'] at hi; exact absurd hi (by omega)
  · have eB : pnB (fAddB P r a b c d) r' = pnB P r' := by rw [pnB_addB, if_neg e]
    have tb : ∀ b' s, pI (fAddB P r a b c d) 0 r' b' s = pI P 0 r' b' s := fun b' s => t0 _ _ _ _ (fun x => e x.2.1)
    have est : ∀ b', fStop (fAddB P r a b c d) r' b' = fStop P r' b' := fun b' => by unfold fStop; rw [tb]
    refine ⟨⟨by rw [eB]; exact h1, h2, fun b' hb' => by rw [tb, tb]; exact h3 b' (by rw [← eB]; exact hb')⟩, by rw [t4, eB, tb]; exact h4', by rw [t4]; exact h5, by rw [t3]; exact h6, fun i hi => ?_, fun i j hi hj hn => by rw [t5, t5]; exact h8 i j hi hj hn⟩
    obtain ⟨b', hb, g1, g2, g3⟩ := h7 i hi
    refine ⟨b', by rw [eB]; exact hb, by rw [t5]; exact g1, by rw [t5]; exact g2, ?_⟩
    rw [t5, t5, t5, t5, est]
    rcases g3 with g3 | ⟨g3, g4⟩
    · exact Or.inl g3
    · refine Or.inr ⟨g3, ?_⟩
      unfold onWay at g4 ⊢
      rw [eB]
      simp only [est]
      exact g4
end GADDS
