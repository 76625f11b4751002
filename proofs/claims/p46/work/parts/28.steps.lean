/-! the guests' invariant is kept: one guest changed -/
section GSTEPS
theorem inW.bound {P : gP} {LL RR : Nat → Nat → List Nat} {m p : Nat → Nat} (hG : pnG P ≤ 60) (h : inW P LL RR m p) {g : Nat} (hg : g < pnG P) : wIn P m g + p g ≤ 59940 := by
  obtain ⟨-, -, b, ti, to, -, -, -, h4, h5, h6⟩ := h
  have h7 := sumN_ge (f := wIn P m) hg
  have h8 := sumN_ge (f := p) hg
  omega
theorem inW.step {P Q : gP} {LL RR LL' RR' : Nat → Nat → List Nat} {m p : Nat → Nat} {g0 a c : Nat} (hG : pnG P ≤ 60) (h : inW P LL RR m p) (eR : pnR Q = pnR P) (eG : pnG Q = pnG P) (hW : Wit Q LL' RR') (hg : g0 < pnG P)
    (e1 : ∀ g s, g ≠ g0 → s = 0 ∨ s = 3 ∨ s = 4 ∨ s = 6 ∨ s = 10 → pI Q 1 g 0 s = pI P 1 g 0 s) (e2 : ∀ g, g ≠ g0 → pGL Q g = pGL P g)
    (hL : ∀ g, g ≠ g0 → ∀ r q, (LL' r q).count g = (LL r q).count g) (hR : ∀ g, g ≠ g0 → ∀ r q, (RR' r q).count g = (RR r q).count g)
    (hq : inG Q LL' RR' (updF m g0 a) (updF p g0 c) g0) (hb : pJ Q 10 = pJ P 10)
    (hm : ∀ ti to, pJ P 11 = lN ti → pJ P 12 = lN to → p g0 ≤ ti → ∃ ti' to', pJ Q 11 = lN ti' ∧ pJ Q 12 = lN to' ∧ wIn Q (updF m g0 a) g0 + ti' + to' = wIn P m g0 + ti + to ∧ ti + c ≤ ti' + p g0) : inW Q LL' RR' (updF m g0 a) (updF p g0 c) := by
  obtain ⟨hw, hgs, b, ti, to, h1, h2, h3, h4, h5, h6⟩ := h
  refine ⟨hW, fun g hg' => ?_, ?_⟩
  · by_cases e : g = g0
    · subst e; exact hq
    · exact (hgs g (by rw [← eG]; exact hg')).other (fun s hs => e1 g s e hs) (e2 g e) (by rw [eR]; exact Nat.le_refl _) (updF_n e) (updF_n e) (hL g e) (hR g e)
  · have hp : p g0 ≤ ti := by have := sumN_ge (f := p) hg; omega
    obtain ⟨ti', to', i1, i2, i3, i4⟩ := hm ti to h2 h3 hp
    refine ⟨b, ti', to', by rw [hb]; exact h1, i1, i2, by rw [eG]; exact h4, ?_, ?_⟩
    · rw [eG]
      have hs := sumN_upd (n := pnG P) (f := wIn Q (updF m g0 a)) (g := wIn P m) hg (fun j _ hj => wIn_same (e1 j 6 hj (by decide)) (updF_n hj))
      omega
    · rw [eG]
      have hs := sumN_upd (n := pnG P) (f := updF p g0 c) (g := p) hg (fun j _ hj => updF_n hj)
      rw [updF_s] at hs
      omega
theorem pI_join {P : gP} {g r q : Nat} {l : List Nat} {x : Int32} {v : Int64} {g' s : Nat} : pI (uJ (fJoin P g r q l x) 11 v) 1 g' 0 s = if g' = g then (if s = 6 then 113 else if s = 0 then pI P 1 g 0 0 - x else if s = 10 then x else pI P 1 g 0 s) else pI P 1 g' 0 s := by
  rw [pI_uJ]
  by_cases e : g' = g
  · subst e
    by_cases a : s = 6
    · subst a; simp [fJoin, pI_uI, pI_uGL, pI_sLn]
    · by_cases b : s = 0
      · subst b; simp [fJoin, pI_uI, pI_uGL, pI_sLn]
      · by_cases c : s = 10
        · subst c; simp [fJoin, pI_uI, pI_uGL, pI_sLn]
        · simp [fJoin, pI_uI, pI_uGL, pI_sLn, a, b, c]
  · simp [fJoin, pI_uI, pI_uGL, pI_sLn, e]
theorem i_money {a b : Nat} (ha : a ≤ 59940) (hb : b ≤ 99) (h : ¬ nI a < nI b) : b ≤ a := Nat.le_of_not_lt (fun e => h (nI_lt e (by omega)))
theorem cnt0 {LL : Nat → Nat → List Nat} {r q g : Nat} (hr : r < 4) (hq : q < 3) (h : ctL LL g 4 = 0) : (LL r q).count g = 0 := by
  have := ctL_ge (LL := LL) (x := g) hr hq
  omega
theorem cnt0R {LL : Nat → Nat → List Nat} {r q g : Nat} (hr : r < 4) (hq : q < 4) (h : ctR LL g 4 = 0) : (LL r q).count g = 0 := by
  have := ctR_ge (LL := LL) (x := g) hr hq
  omega
/-- a queue that a guest isn't in has room -/
theorem inW.room {P : gP} {LL RR : Nat → Nat → List Nat} {m p : Nat → Nat} (hn : pnR P ≤ 4 ∧ pnG P ≤ 60) (h : inW P LL RR m p) {g r q : Nat} (hg : g < pnG P) (hr : r < pnR P) (hq : q < 3) (h112 : pI P 1 g 0 6 = 112) : (LL r q).length < 60 := by
  obtain ⟨hw, hgs, -⟩ := h
  obtain ⟨-, -, -, hmem⟩ := hw.1 r q hr hq
  rw [sumN_len _ hmem]
  have h1 : sumN (pnG P) (fun x => (LL r q).count x) ≤ sumN (pnG P) (fun x => if x = g then 0 else 1) := by
    refine sumN_le (fun j hj => ?_)
    have hc := (hgs j hj).2.2.2.1.1
    have hge := ctL_ge (LL := LL) (r := r) (q := q) (x := j) (by omega) hq
    by_cases e : j = g
    · subst e
      rw [h112, if_neg (by decide)] at hc
      simp only [if_pos]
      omega
    · rw [if_neg e]
      by_cases e2 : pI P 1 j 0 6 = 113
      · rw [if_pos e2] at hc; omega
      · rw [if_neg e2] at hc; omega
  have h2 := sumN_upd (n := pnG P) (f := fun x => if x = g then 0 else 1) (g := fun _ => 1) hg (fun j _ hj => if_neg hj)
  rw [sumN_one] at h2
  simp only [if_pos] at h2
  omega
theorem inC.join {P : gP} {g r q k : Nat} {l : List Nat} (h : inC P) (hg : g < pnG P) (h112 : pI P 1 g 0 6 = 112) (hr : r < pnR P) (hq : q < 3) (hk : k ≤ 99) (hmon : ¬ pI P 1 g 0 0 < nI k) (hL : Ln P r q l) : inC (uJ (fJoin P g r q l (nI k)) 11 (pJ P 11 + (nI k).toInt64)) := by
  obtain ⟨⟨hn1, hn2, hn3⟩, LL, RR, m, p, hw⟩ := h
  have hll : LL r q = l := (hw.1.1 r q hr hq).len hL
  have hG0 := hw.2.1 g hg
  obtain ⟨-, ⟨hm, hmb⟩, hf, ⟨hc1, hc2⟩, -, hp0, hgl⟩ := hG0
  rw [h112, if_neg (by decide)] at hc1 hc2
  have hp : p g = 0 := hp0 (by rw [h112]; decide)
  have hkm : k ≤ m g := by rw [hm] at hmon; exact i_money hmb hk hmon
  have hlen := hw.room ⟨hn1, hn3⟩ hg hr hq h112
  rw [hll] at hlen
  refine ⟨⟨hn1, hn2, hn3⟩, updL LL r q (l ++ [g]), RR, updF m g (m g - k), updF p g k, hw.step hn3 rfl rfl ?_ hg (fun g' s hn _ => by rw [pI_join, if_neg hn]) (fun g' hn => if_neg hn) (fun g' hn => cnt_upd (by rw [count_app, if_neg (fun e => hn e.symm), hll]; rfl)) (fun _ _ _ _ => rfl) ?_ rfl ?_⟩
  · exact ((((hw.1.line (r := r) (q := q) (l := l ++ [g]) hr (by simp; omega) (fun x hx => by
      rcases List.mem_append.mp hx with hx | hx
      · exact hL.2.2.2 x hx
      · rw [List.mem_singleton.mp hx]; exact hg)).uGL.uI (by decide)).uI (by decide)).uI (by decide)).uJ
  · have e : ∀ s, pI (uJ (fJoin P g r q l (nI k)) 11 (pJ P 11 + (nI k).toInt64)) 1 g 0 s = if s = 6 then 113 else if s = 0 then pI P 1 g 0 0 - nI k else if s = 10 then nI k else pI P 1 g 0 s := fun s => by rw [pI_join, if_pos rfl]
    have e6 : pI (uJ (fJoin P g r q l (nI k)) 11 (pJ P 11 + (nI k).toInt64)) 1 g 0 6 = 113 := e 6
    unfold inG
    rw [e6, e 0, e 3, e 4, e 10, updF_s, updF_s]
    refine ⟨Or.inr (Or.inl rfl), ⟨?_, by omega⟩, hf, ⟨?_, ?_⟩, fun _ => ⟨rfl, r, q, if_pos rfl, hr, hq, ?_⟩, fun hh => absurd rfl hh, fun x hx => ?_⟩
    · show pI P 1 g 0 0 - nI k = _
      rw [hm, pk_sub hkm]
    · have := ctL_upd (LL := LL) (r := r) (q := q) (x := g) (l := l ++ [g]) (by omega) hq
      rw [count_app, hll, hc1] at this
      rw [if_pos rfl]
      simp at this
      omega
    · rw [hc2]; rfl
    · rw [updL_s]; exact List.mem_append_right _ List.mem_cons_self
    · have : some (r, q) = some x := (if_pos rfl).symm.trans hx
      cases this
      exact hr
  · intro ti to h1 h2 h3
    refine ⟨ti + k, to, ?_, h2, ?_, by omega⟩
    · show pJ P 11 + _ = _
      rw [h1, nI_l (by omega), lN_add]
    · unfold wIn
      rw [show pI (uJ (fJoin P g r q l (nI k)) 11 (pJ P 11 + (nI k).toInt64)) 1 g 0 6 = 113 by rw [pI_join, if_pos rfl]; rfl, h112, if_neg (by decide), if_neg (by decide), updF_s]
      omega
theorem pI_leave {P : gP} {g r q : Nat} {l : List Nat} {v : Int64} {g' s : Nat} : pI (uJ (fLeave P g r q l) 11 v) 1 g' 0 s = if g' = g then (if s = 6 then 112 else if s = 0 then pI P 1 g 0 0 + pI P 1 g 0 10 else pI P 1 g 0 s) else pI P 1 g' 0 s := by
  rw [pI_uJ]
  by_cases e : g' = g
  · subst e
    by_cases a : s = 6
    · subst a; simp [fLeave, pI_uI, pI_uGL, pI_sLn]
    · by_cases b : s = 0
      · subst b; simp [fLeave, pI_uI, pI_uGL, pI_sLn]
      · simp [fLeave, pI_uI, pI_uGL, pI_sLn, a, b]
  · simp [fLeave, pI_uI, pI_uGL, pI_sLn, e]
theorem inC.leave {P : gP} {g r q : Nat} {l : List Nat} (h : inC P) (hg : g < pnG P) (h113 : pI P 1 g 0 6 = 113) (hgl : pGL P g = some (r, q)) (hL : Ln P r q l) : inC (uJ (fLeave P g r q l) 11 (pJ P 11 - (pI P 1 g 0 10).toInt64)) := by
  obtain ⟨⟨hn1, hn2, hn3⟩, LL, RR, m, p, hw⟩ := h
  have hG0 := hw.2.1 g hg
  have hbd := hw.bound hn3 hg
  obtain ⟨-, ⟨hm, hmb⟩, hf, ⟨hc1, hc2⟩, h5, -, hgl2⟩ := hG0
  obtain ⟨hpd, r', q', hgl', hr, hq, hmem⟩ := h5 h113
  have erq : (r', q') = (r, q) := Option.some.inj (hgl'.symm.trans hgl)
  cases erq
  have hll : LL r q = l := (hw.1.1 r q hr hq).len hL
  rw [h113, if_pos rfl] at hc1
  rw [h113, if_neg (by decide)] at hc2
  have hwi : wIn P m g = m g := by unfold wIn; rw [h113, if_neg (by decide)]
  rw [hwi] at hbd
  rw [hll] at hmem
  have hlen := (hw.1.1 r q hr hq).2.2.1
  rw [hll] at hlen
  refine ⟨⟨hn1, hn2, hn3⟩, updL LL r q (l.erase g), RR, updF m g (m g + p g), updF p g 0, hw.step hn3 rfl rfl ?_ hg (fun g' s hn _ => by rw [pI_leave, if_neg hn]) (fun g' hn => if_neg hn) (fun g' hn => cnt_upd (by have := count_er (x := g') hmem; rw [if_neg (fun e => hn e.symm)] at this; rw [hll]; exact this)) (fun _ _ _ _ => rfl) ?_ rfl ?_⟩
  · exact (((hw.1.line (r := r) (q := q) (l := l.erase g) hr (Nat.le_trans (List.length_erase_le) hlen) (fun x hx => hL.2.2.2 x (List.mem_of_mem_erase hx))).uGL.uI (by decide)).uI (by decide)).uJ
  · have e : ∀ s, pI (uJ (fLeave P g r q l) 11 (pJ P 11 - (pI P 1 g 0 10).toInt64)) 1 g 0 s = if s = 6 then 112 else if s = 0 then pI P 1 g 0 0 + pI P 1 g 0 10 else pI P 1 g 0 s := fun s => by rw [pI_leave, if_pos rfl]
    have e6 : pI (uJ (fLeave P g r q l) 11 (pJ P 11 - (pI P 1 g 0 10).toInt64)) 1 g 0 6 = 112 := e 6
    unfold inG
    rw [e6, e 0, e 3, e 4, e 10, updF_s, updF_s]
    refine ⟨Or.inl rfl, ⟨?_, by omega⟩, hf, ⟨?_, ?_⟩, fun hh => absurd hh (by decide), fun _ => rfl, fun x hx => ?_⟩
    · show pI P 1 g 0 0 + pI P 1 g 0 10 = _
      rw [hm, hpd, nI_add]
    · have := ctL_upd (LL := LL) (r := r) (q := q) (x := g) (l := l.erase g) (by omega) hq
      have h9 := count_er (x := g) hmem
      rw [hll, hc1] at this
      rw [if_pos rfl] at h9
      rw [if_neg (by decide)]
      omega
    · rw [hc2]; rfl
    · have : none = some x := (if_pos rfl).symm.trans hx
      cases this
  · intro ti to h1 h2 h3
    refine ⟨ti - p g, to, ?_, h2, ?_, by omega⟩
    · show pJ P 11 - _ = _
      rw [h1, hpd, nI_l (by omega), lN_sub h3]
    · rw [hwi]
      unfold wIn
      rw [show pI (uJ (fLeave P g r q l) 11 (pJ P 11 - (pI P 1 g 0 10).toInt64)) 1 g 0 6 = 112 by rw [pI_leave, if_pos rfl]; rfl, if_neg (by decide), updF_s]
      omega
theorem pI_seat {P : gP} {g r q i : Nat} {l t : List Nat} {g' s : Nat} : pI (fSeat (sLn P r q l) r i t g) 1 g' 0 s = if g' = g ∧ s = 6 then 116 else pI P 1 g' 0 s := by
  by_cases e : g' = g <;> by_cases a : s = 6 <;> simp [fSeat, fAboard, pI_uI, pI_uGL, pI_sLn, pI_sTr, e, a]
theorem inC.board {P : gP} {g r q i idx : Nat} {l t : List Nat} (h : inC P) (hr : r < pnR P) (hi : i < pnT P r) (hq : q < 3) (hL : Ln P r q l) (hx : l[idx]? = some g) (hT : Tr P r i t) (ht : t.length < 8) : inC (fSeat (sLn P r q (l.eraseIdx idx)) r i t g) := by
  obtain ⟨⟨hn1, hn2, hn3⟩, LL, RR, m, p, hw⟩ := h
  have hi4 := hn2 r hr
  have hll : LL r q = l := (hw.1.1 r q hr hq).len hL
  have htt : RR r i = t := (hw.1.2.2.1 r i hr hi).len hT
  have hmem : g ∈ l := List.mem_of_getElem? hx
  have hg : g < pnG P := hL.2.2.2 g hmem
  obtain ⟨hpl, hmm, hf, ⟨hc1, hc2⟩, h5, hp0, hgl2⟩ := hw.2.1 g hg
  have hcnt : 0 < l.count g := List.count_pos_iff.mpr hmem
  have hge := ctL_ge (LL := LL) (r := r) (q := q) (x := g) (by omega) hq
  rw [hll] at hge
  have h113 : pI P 1 g 0 6 = 113 := Decidable.byContradiction (fun e => by rw [if_neg e] at hc1; omega)
  rw [h113, if_pos rfl] at hc1
  rw [h113, if_neg (by decide)] at hc2
  have hlen := hL.2.2.1
  refine ⟨⟨hn1, hn2, hn3⟩, updL LL r q (l.eraseIdx idx), updL RR r i (t ++ [g]), updF m g (m g), updF p g 0, hw.step hn3 rfl rfl ?_ hg (fun g' s hn _ => by rw [pI_seat, if_neg (fun e => hn e.1)]) (fun g' hn => if_neg hn) (fun g' hn => cnt_upd (by have := count_eraseIdx (x := g') hx; rw [if_neg (fun e => hn e.symm)] at this; rw [hll]; exact this)) (fun g' hn => cnt_upd (by rw [count_app, if_neg (fun e => hn e.symm), htt]; rfl)) ?_ rfl ?_⟩
  · exact (((hw.1.line (r := r) (q := q) (l := l.eraseIdx idx) hr (Nat.le_trans (List.length_eraseIdx_le _ _) hlen) (fun x hx => hL.2.2.2 x (List.mem_of_mem_eraseIdx hx))).train (r := r) (i := i) (l := t ++ [g]) hr hi (by simp; omega) (fun x hx => by
      rcases List.mem_append.mp hx with hx | hx
      · exact hT.2.2.2 x hx
      · rw [List.mem_singleton.mp hx]; exact hg)).uGL.uI (by decide))
  · have e6 : pI (fSeat (sLn P r q (l.eraseIdx idx)) r i t g) 1 g 0 6 = 116 := by rw [pI_seat, if_pos ⟨rfl, rfl⟩]
    have e : ∀ s, s ≠ 6 → pI (fSeat (sLn P r q (l.eraseIdx idx)) r i t g) 1 g 0 s = pI P 1 g 0 s := fun s hs => by rw [pI_seat, if_neg (fun e => hs e.2)]
    unfold inG
    rw [e6, e 0 (by decide), e 3 (by decide), e 4 (by decide), e 10 (by decide), updF_s, updF_s]
    refine ⟨Or.inr (Or.inr (Or.inl rfl)), hmm, hf, ⟨?_, ?_⟩, fun hh => absurd hh (by decide), fun _ => rfl, fun x hx => ?_⟩
    · have := ctL_upd (LL := LL) (r := r) (q := q) (x := g) (l := l.eraseIdx idx) (by omega) hq
      have h9 := count_eraseIdx (x := g) hx
      rw [hll, hc1] at this
      rw [if_pos rfl] at h9
      rw [if_neg (by decide)]
      omega
    · have := ctR_upd (LL := RR) (r := r) (q := i) (x := g) (l := t ++ [g]) (by omega) (by omega)
      rw [count_app, htt, hc2, if_pos rfl] at this
      rw [if_pos rfl]
      omega
    · have : none = some x := (if_pos rfl).symm.trans hx
      cases this
  · intro ti to h1 h2 h3
    refine ⟨ti, to, h1, h2, ?_, by omega⟩
    unfold wIn
    rw [show pI (fSeat (sLn P r q (l.eraseIdx idx)) r i t g) 1 g 0 6 = 116 by rw [pI_seat, if_pos ⟨rfl, rfl⟩], h113, if_neg (by decide), if_neg (by decide), updF_s]
theorem inC.out {P : gP} {g : Nat} (h : inC P) (hg : g < pnG P) (h112 : pI P 1 g 0 6 = 112) : inC (uJ (uI P 1 g 0 6 111) 12 (pJ P 12 + (pI P 1 g 0 0).toInt64)) := by
  obtain ⟨⟨hn1, hn2, hn3⟩, LL, RR, m, p, hw⟩ := h
  obtain ⟨-, ⟨hm, hmb⟩, hf, ⟨hc1, hc2⟩, -, hp0, hgl⟩ := hw.2.1 g hg
  rw [h112, if_neg (by decide)] at hc1 hc2
  have hp : p g = 0 := hp0 (by rw [h112]; decide)
  have e6 : pI (uJ (uI P 1 g 0 6 111) 12 (pJ P 12 + (pI P 1 g 0 0).toInt64)) 1 g 0 6 = 111 := by rw [pI_uJ, pI_uI, if_pos ⟨rfl, rfl, rfl, rfl⟩]
  have e : ∀ g' s, ¬ (g' = g ∧ s = 6) → pI (uJ (uI P 1 g 0 6 111) 12 (pJ P 12 + (pI P 1 g 0 0).toInt64)) 1 g' 0 s = pI P 1 g' 0 s := fun g' s hs => by rw [pI_uJ, pI_uI, if_neg (fun e => hs ⟨e.2.1, e.2.2.2⟩)]
  refine ⟨⟨hn1, hn2, hn3⟩, LL, RR, updF m g (m g), updF p g 0, hw.step hn3 rfl rfl (hw.1.uI (by decide)).uJ hg (fun g' s hn _ => e g' s (fun x => hn x.1)) (fun _ _ => rfl) (fun _ _ _ _ => rfl) (fun _ _ _ _ => rfl) ?_ rfl ?_⟩
  · unfold inG
    rw [e6, e g 0 (fun x => absurd x.2 (by decide)), e g 3 (fun x => absurd x.2 (by decide)), e g 4 (fun x => absurd x.2 (by decide)), e g 10 (fun x => absurd x.2 (by decide)), updF_s, updF_s]
    exact ⟨Or.inr (Or.inr (Or.inr rfl)), ⟨hm, hmb⟩, hf, ⟨by rw [hc1]; rfl, by rw [hc2]; rfl⟩, fun hh => absurd hh (by decide), fun _ => rfl, hgl⟩
  · intro ti to h1 h2 h3
    refine ⟨ti, to + m g, h1, ?_, ?_, by omega⟩
    · show pJ P 12 + _ = _
      rw [h2, hm, nI_l (by omega), lN_add]
    · unfold wIn
      rw [e6, h112, if_pos rfl, if_neg (by decide)]
      omega
theorem i_min99 (x : Int32) : ¬ 99 < fMin99 x := by
  unfold fMin99
  split
  next h => exact fun e => Int32.lt_irrefl (Int32.lt_trans h e)
  next h => decide
end GSTEPS
