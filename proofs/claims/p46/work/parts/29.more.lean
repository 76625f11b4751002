/-! the guests' invariant is kept: meals, recovering, rides done, what is added -/
section GMORE
theorem pI_meal {P : gP} {g : Nat} {v : Int64} {g' s : Nat} : pI (uJ (fMeal P g) 11 v) 1 g' 0 s = if g' = g then (if s = 0 then pI P 1 g 0 0 - 5 else if s = 3 then fMax0 (pI P 1 g 0 3 - 5) else if s = 4 then fMin99 (pI P 1 g 0 4 + 3) else pI P 1 g 0 s) else pI P 1 g' 0 s := by
  rw [pI_uJ]
  by_cases e : g' = g
  · subst e
    by_cases a : s = 0
    · subst a; simp [fMeal, pI_uI]
    · by_cases b : s = 3
      · subst b; simp [fMeal, pI_uI]
      · by_cases c : s = 4
        · subst c; simp [fMeal, pI_uI]
        · simp [fMeal, pI_uI, a, b, c]
  · simp [fMeal, pI_uI, e]
theorem i_fed {n : Nat} (h : n ≤ 99) : ∃ k, k ≤ 99 ∧ fMax0 (nI n - 5) = nI k := by
  by_cases e : 5 ≤ n
  · rw [show (5 : Int32) = nI 5 from rfl, pk_sub e]
    unfold fMax0
    split
    · exact ⟨n - 5, by omega, rfl⟩
    · exact ⟨0, by omega, rfl⟩
  · exact ⟨0, by omega, (by decide : ∀ n, n < 5 → fMax0 (nI n - 5) = nI 0) n (by omega)⟩
theorem inC.eat {P : gP} {g : Nat} (h : inC P) (hg : g < pnG P) (h112 : pI P 1 g 0 6 = 112) (hm5 : ¬ pI P 1 g 0 0 < 5) : inC (uJ (fMeal P g) 11 (pJ P 11 + 5)) := by
  obtain ⟨⟨hn1, hn2, hn3⟩, LL, RR, m, p, hw⟩ := h
  obtain ⟨hpl, ⟨hm, hmb⟩, ⟨⟨n, hn, hu⟩, hna⟩, ⟨hc1, hc2⟩, -, hp0, hgl⟩ := hw.2.1 g hg
  have hp : p g = 0 := hp0 (by rw [h112]; decide)
  have h5m : 5 ≤ m g := by rw [hm] at hm5; exact i_money hmb (by decide : (5 : Nat) ≤ 99) hm5
  refine ⟨⟨hn1, hn2, hn3⟩, LL, RR, updF m g (m g - 5), updF p g 0, hw.step hn3 rfl rfl ((((hw.1.uI (by decide)).uI (by decide)).uI (by decide)).uJ) hg (fun g' s hn _ => by rw [pI_meal, if_neg hn]) (fun _ _ => rfl) (fun _ _ _ _ => rfl) (fun _ _ _ _ => rfl) ?_ rfl ?_⟩
  · have e : ∀ s, pI (uJ (fMeal P g) 11 (pJ P 11 + 5)) 1 g 0 s = if s = 0 then pI P 1 g 0 0 - 5 else if s = 3 then fMax0 (pI P 1 g 0 3 - 5) else if s = 4 then fMin99 (pI P 1 g 0 4 + 3) else pI P 1 g 0 s := fun s => by rw [pI_meal, if_pos rfl]
    have e6 : pI (uJ (fMeal P g) 11 (pJ P 11 + 5)) 1 g 0 6 = 112 := (e 6).trans h112
    rw [h112] at hc1 hc2
    unfold inG
    rw [e6, e 0, e 3, e 4, e 10, updF_s, updF_s]
    refine ⟨Or.inl rfl, ⟨?_, by omega⟩, ⟨?_, i_min99 _⟩, ⟨hc1, hc2⟩, fun hh => absurd hh (by decide), fun _ => rfl, hgl⟩
    · show pI P 1 g 0 0 - 5 = _
      rw [hm, show (5 : Int32) = nI 5 from rfl, pk_sub h5m]
    · show ∃ k, k ≤ 99 ∧ fMax0 (pI P 1 g 0 3 - 5) = nI k
      rw [hu]
      exact i_fed hn
  · intro ti to h1 h2 h3
    refine ⟨ti + 5, to, ?_, h2, ?_, by omega⟩
    · show pJ P 11 + 5 = _
      rw [h1]
      exact lN_add ti 5
    · unfold wIn
      rw [show pI (uJ (fMeal P g) 11 (pJ P 11 + 5)) 1 g 0 6 = 112 by rw [pI_meal, if_pos rfl]; exact h112, h112, if_neg (by decide), if_neg (by decide), updF_s]
      omega
theorem i_dec {x : Int32} (h : ¬ 99 < x) (h0 : 0 < x) : ¬ 99 < x - 1 := by
  obtain ⟨j, hj, rfl⟩ := nI_of (x := x) (fun e => Int32.lt_irrefl (Int32.lt_trans e h0))
  have h1 : ¬ 99 < j := fun e => h (nI_lt (a := 99) e hj)
  have h2 : 0 < j := Nat.pos_of_ne_zero (fun e => by subst e; exact Int32.lt_irrefl h0)
  rw [nI_sub1 h2]
  exact nI_nlt (b := j - 1) (a := 99) (by omega) (by omega)
theorem inC.rest {P : gP} {g : Nat} (h : inC P) (hg : g < pnG P) (h0 : 0 < pI P 1 g 0 4) : inC (uI P 1 g 0 4 (pI P 1 g 0 4 - 1)) := by
  obtain ⟨⟨hn1, hn2, hn3⟩, LL, RR, m, p, hw⟩ := h
  obtain ⟨hpl, hmm, ⟨hu, hna⟩, hcc, h5, hp0, hgl⟩ := hw.2.1 g hg
  have e : ∀ g' s, ¬ (g' = g ∧ s = 4) → pI (uI P 1 g 0 4 (pI P 1 g 0 4 - 1)) 1 g' 0 s = pI P 1 g' 0 s := fun g' s hs => by rw [pI_uI, if_neg (fun e => hs ⟨e.2.1, e.2.2.2⟩)]
  have e4 : pI (uI P 1 g 0 4 (pI P 1 g 0 4 - 1)) 1 g 0 4 = pI P 1 g 0 4 - 1 := by rw [pI_uI, if_pos ⟨rfl, rfl, rfl, rfl⟩]
  refine ⟨⟨hn1, hn2, hn3⟩, LL, RR, updF m g (m g), updF p g (p g), hw.step hn3 rfl rfl (hw.1.uI (by decide)) hg (fun g' s hn _ => e g' s (fun x => hn x.1)) (fun _ _ => rfl) (fun _ _ _ _ => rfl) (fun _ _ _ _ => rfl) ?_ rfl (fun ti to h1 h2 h3 => ⟨ti, to, h1, h2, ?_, by omega⟩)⟩
  · unfold inG
    rw [e4, e g 6 (fun x => absurd x.2 (by decide)), e g 0 (fun x => absurd x.2 (by decide)), e g 3 (fun x => absurd x.2 (by decide)), e g 10 (fun x => absurd x.2 (by decide)), updF_s, updF_s]
    exact ⟨hpl, hmm, ⟨hu, i_dec hna h0⟩, hcc, h5, hp0, hgl⟩
  · rw [wIn_same (P := P) (m := m) (e g 6 (fun x => absurd x.2 (by decide))) updF_s]
theorem pI_fin {P : gP} {a g s : Nat} {f : Int32} : pI (fFin P a f) 1 g 0 s = if g = a then (if s = 6 then 112 else if s = 4 then fMin99 (pI P 1 a 0 4 + f) else if s = 3 then fMin99 (pI P 1 a 0 3 + 1) else if s = 5 then pI P 1 a 0 5 + 1 else pI P 1 a 0 s) else pI P 1 g 0 s := by
  by_cases e : g = a
  · subst e
    by_cases a6 : s = 6
    · subst a6; simp [fFin, pI_uI]
    · by_cases a4 : s = 4
      · subst a4; simp [fFin, pI_uI]
      · by_cases a3 : s = 3
        · subst a3; simp [fFin, pI_uI]
        · by_cases a5 : s = 5
          · subst a5; simp [fFin, pI_uI]
          · simp [fFin, pI_uI, a6, a5, a4, a3]
  · simp [fFin, pI_uI, e]
theorem i_hun {n : Nat} (h : n ≤ 99) : ∃ k, k ≤ 99 ∧ fMin99 (nI n + 1) = nI k := by
  rw [nI_1]
  unfold fMin99
  split
  next e => exact ⟨n + 1, Nat.le_of_lt ((nI_ltI (b := 99) (by omega) (by omega)).mp e), rfl⟩
  next => exact ⟨99, Nat.le_refl _, rfl⟩
theorem fin_rel (f : Int32) : ∀ (l : List Nat) (P : gP) (g : Nat), (pI (fFinA P f l) 1 g 0 0 = pI P 1 g 0 0 ∧ pI (fFinA P f l) 1 g 0 10 = pI P 1 g 0 10) ∧ (g ∈ l → pI (fFinA P f l) 1 g 0 6 = 112) ∧ (¬ g ∈ l → pI (fFinA P f l) 1 g 0 6 = pI P 1 g 0 6) ∧ ((∃ n, n ≤ 99 ∧ pI P 1 g 0 3 = nI n) → ∃ n, n ≤ 99 ∧ pI (fFinA P f l) 1 g 0 3 = nI n) ∧ (¬ 99 < pI P 1 g 0 4 → ¬ 99 < pI (fFinA P f l) 1 g 0 4)
  | [], _, _ => ⟨⟨rfl, rfl⟩, fun h => absurd h List.not_mem_nil, fun _ => rfl, fun h => h, fun h => h⟩
  | a :: l, P, g => by
    have e : fFinA P f (a :: l) = fFinA (fFin P a f) f l := rfl
    rw [e]
    obtain ⟨⟨h0, h10⟩, h1, h2, h3, h4⟩ := fin_rel f l (fFin P a f) g
    refine ⟨⟨?_, ?_⟩, fun hm => ?_, fun hm => ?_, fun hh => h3 ?_, fun hh => h4 ?_⟩
    · rw [h0, pI_fin]; by_cases e : g = a <;> simp [e]
    · rw [h10, pI_fin]; by_cases e : g = a <;> simp [e]
    · by_cases e2 : g ∈ l
      · exact h1 e2
      · rw [h2 e2, pI_fin]
        rcases List.mem_cons.mp hm with rfl | hm
        · rw [if_pos rfl]; rfl
        · exact absurd hm e2
    · rw [h2 (fun e => hm (List.mem_cons_of_mem _ e)), pI_fin, if_neg (fun e => hm (by rw [e]; exact List.mem_cons_self))]
    · rw [pI_fin]
      by_cases e : g = a
      · subst e
        obtain ⟨n, hn, hu⟩ := hh
        rw [if_pos rfl]
        show ∃ k, k ≤ 99 ∧ fMin99 (pI P 1 g 0 3 + 1) = nI k
        rw [hu]
        exact i_hun hn
      · rw [if_neg e]; exact hh
    · rw [pI_fin]
      by_cases e : g = a
      · rw [if_pos e]; exact i_min99 _
      · rw [if_neg e]; exact hh
theorem inC.fin {P : gP} {r i : Nat} {f : Int32} {l : List Nat} (h : inC P) (hr : r < pnR P) (hi : i < pnT P r) (hT : Tr P r i l) : inC (sTr (fFinA P f l) r i []) := by
  obtain ⟨⟨hn1, hn2, hn3⟩, LL, RR, m, p, hw, hgs, b, ti, to, h1, h2, h3, h4, h5, h6⟩ := h
  have hi4 := hn2 r hr
  have htt : RR r i = l := (hw.2.2.1 r i hr hi).len hT
  obtain ⟨e2, ek⟩ := fFinA_same f l P
  have eR : pnR (sTr (fFinA P f l) r i []) = pnR P := congrArg (fun x => x.2.2.2.2.1) e2
  have eG : pnG (sTr (fFinA P f l) r i []) = pnG P := congrArg (fun x => x.2.2.2.2.2.1) e2
  have eT : ∀ r', pnT (sTr (fFinA P f l) r i []) r' = pnT P r' := fun r' => congrArg (fun x => x.2.2.2.2.2.2.2.1 r') e2
  have eJ : ∀ s, pJ (sTr (fFinA P f l) r i []) s = pJ P s := fun s => congrArg (fun x => x.1 s) e2
  have eGL : ∀ g, pGL (sTr (fFinA P f l) r i []) g = pGL P g := fun g => congrArg (fun x => x.2.2.2.1 g) e2
  have e1 : ∀ g s, pI (sTr (fFinA P f l) r i []) 1 g 0 s = pI (fFinA P f l) 1 g 0 s := fun g s => by rw [pI_sTr, if_neg (fun e => absurd e.1 (by decide))]
  have hpl : ∀ g, g ∈ l → g < pnG P ∧ pI P 1 g 0 6 = 116 ∧ l.count g = 1 := fun g hg => by
    have hg' := hT.2.2.2 g hg
    have hc := (hgs g hg').2.2.2.1.2
    have hge := ctR_ge (LL := RR) (r := r) (q := i) (x := g) (by omega) (by omega)
    have hp : 0 < l.count g := List.count_pos_iff.mpr hg
    rw [htt] at hge
    by_cases e : pI P 1 g 0 6 = 116
    · rw [if_pos e] at hc
      exact ⟨hg', e, by omega⟩
    · rw [if_neg e] at hc
      omega
  refine ⟨⟨by rw [eR]; exact hn1, fun r' hr' => by rw [eT]; exact hn2 r' (by rw [← eR]; exact hr'), by rw [eG]; exact hn3⟩, LL, updL RR r i [], m, p, ?_, fun g hg => ?_, b, ti, to, by rw [eJ]; exact h1, by rw [eJ]; exact h2, by rw [eJ]; exact h3, by rw [eG]; exact h4, ?_, by rw [eG]; exact h6⟩
  · have hw2 : Wit (fFinA P f l) LL RR := hw.same (congrArg (fun x => x.2) e2) (fun a b => ek 2 a b 1 (by decide)) (fun a b => ek 5 a b 2 (by decide))
    have eR' : pnR (fFinA P f l) = pnR P := congrArg (fun x => x.2.2.2.2.1) e2
    have eT' : pnT (fFinA P f l) r = pnT P r := congrArg (fun x => x.2.2.2.2.2.2.2.1 r) e2
    exact hw2.train (by rw [eR']; exact hr) (by rw [eT']; exact hi) (by simp) (fun g hg => absurd hg List.not_mem_nil)
  · rw [eG] at hg
    obtain ⟨k1, k2, ⟨k3, k4⟩, ⟨k5, k6⟩, k7, k8, k9⟩ := hgs g hg
    obtain ⟨⟨f0, f10⟩, f1, f2, f3, f4⟩ := fin_rel f l P g
    unfold inG
    rw [e1, e1, e1, e1, e1, eGL, eR, f0, f10]
    have hcu := ctR_upd (LL := RR) (r := r) (q := i) (x := g) (l := []) (by omega) (by omega)
    rw [htt] at hcu
    by_cases hm : g ∈ l
    · obtain ⟨-, p1, p2⟩ := hpl g hm
      rw [p1] at k5 k6
      rw [f1 hm]
      refine ⟨Or.inl rfl, k2, ⟨f3 k3, f4 k4⟩, ⟨by rw [k5]; rfl, ?_⟩, fun hh => absurd hh (by decide), fun _ => k8 (by rw [p1]; decide), k9⟩
      rw [p2, k6] at hcu
      simp at hcu
      rw [if_neg (by decide)]
      exact hcu
    · rw [f2 hm]
      refine ⟨k1, k2, ⟨f3 k3, f4 k4⟩, ⟨k5, ?_⟩, k7, k8, k9⟩
      rw [← k6]
      have : l.count g = 0 := List.count_eq_zero.mpr hm
      simp at hcu
      omega
  · rw [eG, h5, sumN_ext (fun j hj => ?_)]
    unfold wIn
    rw [e1]
    by_cases hm : j ∈ l
    · rw [(fin_rel f l P j).2.1 hm, (hpl j hm).2.1]; rfl
    · rw [(fin_rel f l P j).2.2.1 hm]
theorem inC.stand {P : gP} {r i : Nat} {s : Int32} {l : List Nat} (h : inC P) (hr : r < pnR P) (hi : i < pnT P r) (hT : Tr P r i l) : inC (fStand P r i l s) := by
  have h0 : inC (fStand0 P r i s) := (((h.kI (by decide)).kI (by decide)).kI (by decide)).kI (by decide)
  have hT0 : Tr (fStand0 P r i s) r i l := (((hT.uI (by decide)).uI (by decide)).uI (by decide)).uI (by decide)
  unfold fStand
  split
  · exact h0.fin hr hi hT0
  · exact h0
theorem inC.mv {P Q : gP} {r i b : Nat} {l : List Nat} (h : inC P) (hr : r < pnR P) (hi : i < pnT P r) (hT : Tr P r i l) (hm : mvRel P Q r i b l) : inC Q := by
  rcases hm with rfl | rfl | ⟨-, rfl⟩ | ⟨-, e, c, f, rfl⟩
  · exact h.kI (by decide)
  · exact h.kI (by decide)
  · exact h.stand hr hi hT
  · exact (((h.kI (by decide)).kI (by decide)).kI (by decide)).kI (by decide)
theorem inC.go {P : gP} {r i : Nat} {p : Int32} (h : inC P) : inC (fGo P r i p) := by
  unfold fGo
  split
  · exact ((h.kI (by decide)).kI (by decide)).kI (by decide)
  · exact (h.kI (by decide)).kI (by decide)
end GMORE
