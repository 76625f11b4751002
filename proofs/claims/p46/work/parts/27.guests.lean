/-! the invariant of the guests: places, feelings, queues, riders; of the money -/
section GGUESTS
def inG (P : gP) (LL RR : Nat → Nat → List Nat) (m p : Nat → Nat) (g : Nat) : Prop :=
  (pI P 1 g 0 6 = 112 ∨ pI P 1 g 0 6 = 113 ∨ pI P 1 g 0 6 = 116 ∨ pI P 1 g 0 6 = 111) ∧ (pI P 1 g 0 0 = nI (m g) ∧ m g ≤ 59940) ∧ ((∃ n, n ≤ 99 ∧ pI P 1 g 0 3 = nI n) ∧ ¬ 99 < pI P 1 g 0 4) ∧
  (ctL LL g 4 = (if pI P 1 g 0 6 = 113 then 1 else 0) ∧ ctR RR g 4 = (if pI P 1 g 0 6 = 116 then 1 else 0)) ∧
  (pI P 1 g 0 6 = 113 → pI P 1 g 0 10 = nI (p g) ∧ ∃ r q, pGL P g = some (r, q) ∧ r < pnR P ∧ q < 3 ∧ g ∈ LL r q) ∧ (¬ pI P 1 g 0 6 = 113 → p g = 0) ∧ ∀ q, pGL P g = some q → q.1 < pnR P
/-- what she has, as long as she is not out -/
def wIn (P : gP) (m : Nat → Nat) (g : Nat) : Nat := if pI P 1 g 0 6 = 111 then 0 else m g
def inM (P : gP) (m p : Nat → Nat) : Prop := ∃ b ti to : Nat, pJ P 10 = lN b ∧ pJ P 11 = lN ti ∧ pJ P 12 = lN to ∧ b ≤ 999 * pnG P ∧ b = sumN (pnG P) (wIn P m) + ti + to ∧ sumN (pnG P) p ≤ ti
def inW (P : gP) (LL RR : Nat → Nat → List Nat) (m p : Nat → Nat) : Prop := Wit P LL RR ∧ (∀ g, g < pnG P → inG P LL RR m p g) ∧ inM P m p
def inC (P : gP) : Prop := (pnR P ≤ 4 ∧ (∀ r, r < pnR P → pnT P r ≤ 4) ∧ pnG P ≤ 60) ∧ ∃ LL RR m p, inW P LL RR m p
def updF (f : Nat → Nat) (a v : Nat) : Nat → Nat := fun x => if x = a then v else f x
theorem updF_s {f : Nat → Nat} {a v : Nat} : updF f a v a = v := if_pos rfl
theorem updF_n {f : Nat → Nat} {a v x : Nat} (h : x ≠ a) : updF f a v x = f x := if_neg h
theorem ctL_same {LL LL' : Nat → Nat → List Nat} {g : Nat} (h : ∀ r q, (LL' r q).count g = (LL r q).count g) : ∀ k, ctL LL' g k = ctL LL g k
  | 0 => rfl
  | k + 1 => by
    unfold ctL
    rw [ctL_same h k, h, h, h]
theorem ctT_same {R R' : Nat → List Nat} {g : Nat} (h : ∀ q, (R' q).count g = (R q).count g) : ∀ k, ctT R' g k = ctT R g k
  | 0 => rfl
  | k + 1 => by
    unfold ctT
    rw [ctT_same h k, h]
theorem ctR_same {LL LL' : Nat → Nat → List Nat} {g : Nat} (h : ∀ r q, (LL' r q).count g = (LL r q).count g) : ∀ k, ctR LL' g k = ctR LL g k
  | 0 => rfl
  | k + 1 => by
    unfold ctR
    rw [ctR_same h k, ctT_same (h k)]
theorem cnt_upd {LL : Nat → Nat → List Nat} {r q g : Nat} {l : List Nat} (h : l.count g = (LL r q).count g) (r' q' : Nat) : (updL LL r q l r' q').count g = (LL r' q').count g := by
  by_cases e : r' = r ∧ q' = q
  · obtain ⟨rfl, rfl⟩ := e
    rw [updL_s, h]
  · rw [updL_n e]
/-- a guest of whom nothing is changed -/
theorem inG.other {P Q : gP} {LL RR LL' RR' : Nat → Nat → List Nat} {m p m' p' : Nat → Nat} {g : Nat} (h : inG P LL RR m p g) (e : ∀ s, s = 0 ∨ s = 3 ∨ s = 4 ∨ s = 6 ∨ s = 10 → pI Q 1 g 0 s = pI P 1 g 0 s) (eg : pGL Q g = pGL P g) (er : pnR P ≤ pnR Q) (em : m' g = m g) (ep : p' g = p g) (hL : ∀ r q, (LL' r q).count g = (LL r q).count g) (hR : ∀ r q, (RR' r q).count g = (RR r q).count g) : inG Q LL' RR' m' p' g := by
  obtain ⟨h1, h2, h3, h4, h5, h6, h7⟩ := h
  unfold inG
  rw [e 6 (by decide), e 0 (by decide), e 3 (by decide), e 4 (by decide), e 10 (by decide), eg, em, ep, ctL_same hL, ctR_same hR]
  refine ⟨h1, h2, h3, h4, fun h => ?_, h6, fun q hq => Nat.lt_of_lt_of_le (h7 q hq) er⟩
  obtain ⟨a, r, q, b, c, d, f⟩ := h5 h
  refine ⟨a, r, q, b, Nat.lt_of_lt_of_le c er, d, List.count_pos_iff.mp ?_⟩
  rw [hL]
  exact List.count_pos_iff.mpr f
theorem wIn_same {P Q : gP} {m m' : Nat → Nat} {g : Nat} (e : pI Q 1 g 0 6 = pI P 1 g 0 6) (em : m' g = m g) : wIn Q m' g = wIn P m g := by
  unfold wIn
  rw [e, em]
theorem Ln.len {P : gP} {r q : Nat} {l t : List Nat} (h : Ln P r q l) (h2 : Ln P r q t) : l = t := list_ext2 h.2.1 h2.2.1
theorem Tr.len {P : gP} {r q : Nat} {l t : List Nat} (h : Tr P r q l) (h2 : Tr P r q t) : l = t := list_ext2 h.2.1 h2.2.1
/-- who waits and who rides: nothing changed -/
theorem Wit.same {P Q : gP} {LL RR : Nat → Nat → List Nat} (h : Wit P LL RR) (e0 : Q.2.2 = P.2.2) (e2 : ∀ r q, pI Q 2 r q 1 = pI P 2 r q 1) (e5 : ∀ r i, pI Q 5 r i 2 = pI P 5 r i 2) : Wit Q LL RR := by
  have eR : pnR Q = pnR P := congrArg (fun x => x.2.2.2.1) e0
  have eG : pnG Q = pnG P := congrArg (fun x => x.2.2.2.2.1) e0
  have eT : ∀ r, pnT Q r = pnT P r := fun r => congrArg (fun x => x.2.2.2.2.2.2.1 r) e0
  have eRD : ∀ r i j, pRD Q r i j = pRD P r i j := fun r i j => congrArg (fun x => x.1 r i j) e0
  have ePL : ∀ r i j, pPL Q r i j = pPL P r i j := fun r i j => congrArg (fun x => x.2.1 r i j) e0
  unfold Wit Ln Tr at h ⊢
  simp only [eR, eG, eT, eRD, ePL, e2, e5]
  exact h
theorem Wit.uI {P : gP} {LL RR : Nat → Nat → List Nat} {k r i s : Nat} {v : Int32} (h : Wit P LL RR) (hk : ¬ (k = 2 ∧ s = 1) ∧ ¬ (k = 5 ∧ s = 2)) : Wit (uI P k r i s v) LL RR :=
  h.same rfl (fun a b => by rw [pI_uI, if_neg (fun e => hk.1 ⟨e.1.symm, e.2.2.2.symm⟩)]) (fun a b => by rw [pI_uI, if_neg (fun e => hk.2 ⟨e.1.symm, e.2.2.2.symm⟩)])
theorem Wit.uGL {P : gP} {LL RR : Nat → Nat → List Nat} {g : Nat} {v : Option (Nat × Nat)} (h : Wit P LL RR) : Wit (uGL P g v) LL RR := h
theorem Wit.uJ {P : gP} {LL RR : Nat → Nat → List Nat} {s : Nat} {v : Int64} (h : Wit P LL RR) : Wit (uJ P s v) LL RR := h
theorem Wit.line {P : gP} {LL RR : Nat → Nat → List Nat} {r q : Nat} {l : List Nat} (h : Wit P LL RR) (hr : r < pnR P) (hl : l.length ≤ 60) (hg : ∀ g ∈ l, g < pnG P) : Wit (sLn P r q l) (updL LL r q l) RR := by
  obtain ⟨h1, h2, h3, h4⟩ := h
  refine ⟨fun r' q' hr' hq' => ?_, fun r' q' hr' => ?_, fun r' i' hr' hi' => (h3 r' i' hr' hi').sLn, h4⟩
  · by_cases e : r' = r ∧ q' = q
    · obtain ⟨rfl, rfl⟩ := e
      rw [updL_s]
      exact ⟨by rw [pI_sLn, if_pos ⟨rfl, rfl, rfl, rfl⟩], fun j => by rw [pPL_sLn, if_pos ⟨rfl, rfl⟩], hl, hg⟩
    · rw [updL_n e]
      obtain ⟨a, b, c, d⟩ := h1 r' q' hr' hq'
      exact ⟨by rw [pI_sLn, if_neg (fun x => e ⟨x.2.1, x.2.2.1⟩)]; exact a, fun j => by rw [pPL_sLn, if_neg e]; exact b j, c, d⟩
  · rw [updL_n (fun e => hr' (by rw [e.1]; exact hr))]
    exact h2 r' q' hr'
theorem Wit.train {P : gP} {LL RR : Nat → Nat → List Nat} {r i : Nat} {l : List Nat} (h : Wit P LL RR) (hr : r < pnR P) (hi : i < pnT P r) (hl : l.length ≤ 8) (hg : ∀ g ∈ l, g < pnG P) : Wit (sTr P r i l) LL (updL RR r i l) := by
  obtain ⟨h1, h2, h3, h4⟩ := h
  refine ⟨fun r' q' hr' hq' => ?_, h2, fun r' i' hr' hi' => ?_, fun r' i' hn => ?_⟩
  · obtain ⟨a, b, c, d⟩ := h1 r' q' hr' hq'
    exact ⟨by rw [pI_sTr, if_neg (fun x => absurd x.1 (by decide))]; exact a, b, c, d⟩
  · by_cases e : r' = r ∧ i' = i
    · obtain ⟨rfl, rfl⟩ := e
      rw [updL_s]
      exact ⟨by rw [pI_sTr, if_pos ⟨rfl, rfl, rfl, rfl⟩], fun j => by rw [pRD_sTr, if_pos ⟨rfl, rfl⟩], hl, hg⟩
    · rw [updL_n e]
      obtain ⟨a, b, c, d⟩ := h3 r' i' hr' hi'
      exact ⟨by rw [pI_sTr, if_neg (fun x => e ⟨x.2.1, x.2.2.1⟩)]; exact a, fun j => by rw [pRD_sTr, if_neg e]; exact b j, c, d⟩
  · rw [updL_n (fun e => hn (by rw [e.1, e.2]; exact ⟨hr, hi⟩))]
    exact h4 r' i' hn
/-- nothing that the guests' invariant looks at is changed -/
theorem inC.same {P Q : gP} (h : inC P) (e0 : Q.2 = P.2) (e1 : ∀ g s, s = 0 ∨ s = 3 ∨ s = 4 ∨ s = 6 ∨ s = 10 → pI Q 1 g 0 s = pI P 1 g 0 s) (e2 : ∀ r q, pI Q 2 r q 1 = pI P 2 r q 1) (e5 : ∀ r i, pI Q 5 r i 2 = pI P 5 r i 2) : inC Q := by
  obtain ⟨⟨a1, a2, a3⟩, LL, RR, m, p, hw, hg, b, ti, to, h1, h2, h3, h4, h5, h6⟩ := h
  have eR : pnR Q = pnR P := congrArg (fun x => x.2.2.2.2.1) e0
  have eG : pnG Q = pnG P := congrArg (fun x => x.2.2.2.2.2.1) e0
  have eT : ∀ r, pnT Q r = pnT P r := fun r => congrArg (fun x => x.2.2.2.2.2.2.2.1 r) e0
  have eJ : ∀ s, pJ Q s = pJ P s := fun s => congrArg (fun x => x.1 s) e0
  have eGL : ∀ g, pGL Q g = pGL P g := fun g => congrArg (fun x => x.2.2.2.1 g) e0
  refine ⟨⟨by rw [eR]; exact a1, fun r hr => by rw [eT]; exact a2 r (by rw [← eR]; exact hr), by rw [eG]; exact a3⟩, LL, RR, m, p, hw.same (congrArg (fun x => x.2) e0) e2 e5, fun g hg' => (hg g (by rw [← eG]; exact hg')).other (e1 g) (eGL g) (by rw [eR]; exact Nat.le_refl _) rfl rfl (fun _ _ => rfl) (fun _ _ => rfl), b, ti, to, by rw [eJ]; exact h1, by rw [eJ]; exact h2, by rw [eJ]; exact h3, by rw [eG]; exact h4, ?_, by rw [eG]; exact h6⟩
  rw [eG, h5, sumN_ext (fun j _ => wIn_same (P := P) (Q := Q) (m := m) (m' := m) (e1 j 6 (by decide)) rfl)]
theorem inC.kI {P : gP} {k r i s : Nat} {v : Int32} (h : inC P) (hk : ¬ (k = 1 ∧ (s = 0 ∨ s = 3 ∨ s = 4 ∨ s = 6 ∨ s = 10)) ∧ ¬ (k = 2 ∧ s = 1) ∧ ¬ (k = 5 ∧ s = 2)) : inC (uI P k r i s v) := by
  refine h.same rfl (fun g t ht => ?_) (fun a b => ?_) (fun a b => ?_) <;> rw [pI_uI, if_neg]
  · exact fun e => hk.1 ⟨e.1.symm, by rw [← e.2.2.2]; exact ht⟩
  · exact fun e => hk.2.1 ⟨e.1.symm, e.2.2.2.symm⟩
  · exact fun e => hk.2.2 ⟨e.1.symm, e.2.2.2.symm⟩
end GGUESTS
