/-! the invariant of the park (under way) -/
section GINV
theorem gNum.deed {Q : Option Value → gH → Prop} {QX : String → gH → Prop} (hQ : gNum Q) : gNum (qDeed Q QX) := fun v h' q => by
  rcases q with q | ⟨E, -, rfl⟩
  · exact hQ v h' q
  · exact ⟨_, rfl⟩
theorem gNum.I {h : gH} {F : Int32 → Prop} : gNum (qI h F) := fun v h' q => by
  obtain ⟨x, rfl, -⟩ := q
  exact ⟨x, rfl⟩
theorem gNum.IM {F : Int32 → gH → Prop} : gNum (qIM F) := fun v h' q => by
  obtain ⟨x, rfl, -⟩ := q
  exact ⟨x, rfl⟩
/-- the block m steps on -/
def nxt (nb : Nat) : Nat → Nat → Nat
  | 0, b => b
  | m + 1, b => nxt nb m (fNx nb b)
/-- held is what a train that is in b and has set out holds: its own block and all to its next stop -/
def onWay (P : gP) (r b : Nat) (held : Int32) : Prop := ¬ held &&& (1 <<< (nI b &&& 31)) = 0 ∧ ∃ m, m < pnB P r ∧ fStop P r (nxt (pnB P r) m (fNx (pnB P r) b)) = true ∧ ∀ j, j ≤ m → ¬ held &&& (1 <<< (nI (nxt (pnB P r) j (fNx (pnB P r) b)) &&& 31)) = 0
/-- a train that has moved on one block, not a stop, is on its way still -/
theorem onWay.step {P : gP} {r b : Nat} {held : Int32} (h : onWay P r b held) (hs : fStop P r (fNx (pnB P r) b) = false) : onWay P r (fNx (pnB P r) b) held := by
  obtain ⟨-, m, hm, h1, h2⟩ := h
  refine ⟨h2 0 (Nat.zero_le _), ?_⟩
  rcases m with _ | m
  · exact absurd h1 (by show ¬ fStop P r (fNx (pnB P r) b) = true; rw [hs]; decide)
  · exact ⟨m, by omega, h1, fun j hj => h2 (j + 1) (by omega)⟩
theorem i_orl {a b c : Int32} (h : (a ||| b) &&& c = 0) : a &&& c = 0 := by
  apply Int32.toBitVec_inj.mp
  have h' := congrArg Int32.toBitVec h
  simp only [Int32.toBitVec_and, Int32.toBitVec_or] at h' ⊢
  apply BitVec.eq_of_getLsbD_eq
  intro i hi
  have h2 := congrArg (fun x => x.getLsbD i) h'
  simp only [BitVec.getLsbD_and, BitVec.getLsbD_or] at h2 ⊢
  rw [show (0 : Int32).toBitVec.getLsbD i = false by simp] at h2 ⊢
  revert h2
  cases a.toBitVec.getLsbD i <;> cases b.toBitVec.getLsbD i <;> cases c.toBitVec.getLsbD i <;> simp
theorem i_orr {a b c : Int32} (h : (a ||| b) &&& c = 0) : b &&& c = 0 := i_orl (a := b) (b := a) (by rw [Int32.or_comm]; exact h)
theorem bit_self {b : Nat} (h : b < 12) : ¬ ((1 : Int32) <<< (nI b &&& 31)) &&& (1 <<< (nI b &&& 31)) = 0 := (by decide : ∀ b, b < 12 → ¬ ((1 : Int32) <<< (nI b &&& 31)) &&& (1 <<< (nI b &&& 31)) = 0) b h
theorem fPath_keep {P : gP} {r : Nat} {c : Int32} : ∀ (m a : Nat) (p : Int32), ¬ p &&& c = 0 → ¬ fPath P r m a p &&& c = 0
  | 0, _, _, h => h
  | m + 1, a, p, h => by
    unfold fPath
    split
    · exact fun e => h (i_orl e)
    · exact fPath_keep m _ _ (fun e => h (i_orl e))
theorem fPath_way {P : gP} {r : Nat} (hB : pnB P r ≤ 12) : ∀ (m a : Nat) (p : Int32), a < pnB P r → (∃ j, j < m ∧ fStop P r (nxt (pnB P r) j (fNx (pnB P r) a)) = true) → ∃ m2, m2 < m ∧ fStop P r (nxt (pnB P r) m2 (fNx (pnB P r) a)) = true ∧ ∀ j, j ≤ m2 → ¬ fPath P r m a p &&& (1 <<< (nI (nxt (pnB P r) j (fNx (pnB P r) a)) &&& 31)) = 0
  | 0, _, _, _, h => by obtain ⟨j, hj, -⟩ := h; omega
  | m + 1, a, p, ha, h => by
    have hx := fNx_lt ha
    unfold fPath
    split
    next hs =>
      refine ⟨0, by omega, hs, fun j hj => ?_⟩
      obtain rfl : j = 0 := by omega
      exact fun e => bit_self (by omega) (i_orr e)
    next hs =>
      obtain ⟨j, hj, hj2⟩ := h
      rcases j with _ | j
      · exact absurd hj2 hs
      · obtain ⟨m2, hm2, h1, h2⟩ := fPath_way hB m (fNx (pnB P r) a) (p ||| (1 <<< (nI (fNx (pnB P r) a) &&& 31))) hx ⟨j, by omega, hj2⟩
        refine ⟨m2 + 1, by omega, h1, fun i hi => ?_⟩
        rcases i with _ | i
        · exact fPath_keep _ _ _ (fun e => bit_self (by omega) (i_orr e))
        · exact h2 i (by omega)
theorem nxt_end {nb : Nat} : ∀ d x : Nat, x + d + 1 = nb → nxt nb (d + 1) x = 0
  | 0, x, h => by show fNx nb x = 0; unfold fNx; rw [if_neg (by omega)]
  | d + 1, x, h => by
    show nxt nb (d + 1) (fNx nb x) = 0
    rw [show fNx nb x = x + 1 by unfold fNx; rw [if_pos (by omega)]]
    exact nxt_end d (x + 1) (by omega)
theorem nxt_zero {nb a : Nat} (h : a < nb) : ∃ j, j < nb ∧ nxt nb j (fNx nb a) = 0 := by
  by_cases e : a + 1 < nb
  · refine ⟨nb - a - 2 + 1, by omega, ?_⟩
    rw [show fNx nb a = a + 1 by unfold fNx; rw [if_pos e]]
    exact nxt_end _ _ (by omega)
  · exact ⟨0, by omega, by show fNx nb a = 0; unfold fNx; rw [if_neg e]⟩
/-- a train that sets out from its stop in a closed ring is on its way -/
theorem onWay.go {P : gP} {r b : Nat} (hB : pnB P r ≤ 12) (hb : b < pnB P r) (h0 : fStop P r 0 = true) : onWay P r b ((1 <<< (nI b &&& 31)) ||| fPath P r (pnB P r) b 0) := by
  refine ⟨fun e => bit_self (by omega) (i_orl e), ?_⟩
  obtain ⟨j, hj, hz⟩ := nxt_zero hb
  obtain ⟨m, hm, h1, h2⟩ := fPath_way hB (pnB P r) b 0 hb ⟨j, hj, by rw [hz]; exact h0⟩
  exact ⟨m, hm, h1, fun i hi e => h2 i hi (i_orr e)⟩
/-- the stop that fNS finds is the end of the way: its bit is held -/
theorem fNS_way {P : gP} {r : Nat} {held : Int32} : ∀ (n x m : Nat), m < n → fStop P r (nxt (pnB P r) m x) = true → (∀ j, j ≤ m → ¬ held &&& (1 <<< (nI (nxt (pnB P r) j x) &&& 31)) = 0) → fStop P r (fNS P r n x) = true ∧ ¬ held &&& (1 <<< (nI (fNS P r n x) &&& 31)) = 0
  | 0, _, _, h, _, _ => by omega
  | n + 1, x, m, h, h1, h2 => by
    unfold fNS
    split
    next hs => exact ⟨hs, h2 0 (Nat.zero_le _)⟩
    next hs =>
      rcases m with _ | m
      · exact absurd h1 hs
      · exact fNS_way n (fNx (pnB P r) x) m (by omega) h1 (fun j hj => h2 (j + 1) (by omega))
/-- one train -/
def inTr (P : gP) (r i : Nat) : Prop := ∃ b, b < pnB P r ∧ pI P 5 r i 3 = nI b ∧ (∃ s, 1 ≤ s ∧ s ≤ 8 ∧ pI P 5 r i 0 = nI s) ∧
  ((pI P 5 r i 5 = 115 ∧ fStop P r b = true ∧ pI P 5 r i 6 = 1 <<< (nI b &&& 31) ∧ pI P 5 r i 4 = 0 ∧ (b = 0 → pI P 5 r i 2 = 0)) ∨ ((pI P 5 r i 5 = 109 ∨ pI P 5 r i 5 = 120) ∧ onWay P r b (pI P 5 r i 6)))
/-- the holds are apart -/
def inAp (P : gP) (r : Nat) : Prop := ∀ i j, i < pnT P r → j < pnT P r → j ≠ i → pI P 5 r i 6 &&& pI P 5 r j 6 = 0
/-- what holds a block holds no less than its bit -/
theorem one_bit {x c : Int32} {s : Nat} (hs : s < 12) (h : ¬ x &&& (1 <<< (nI s &&& 31)) = 0) (hc : x &&& c = 0) : (1 <<< (nI s &&& 31)) &&& c = 0 := by
  have e : ((1 : Int32) <<< (nI s &&& 31)).toBitVec = BitVec.twoPow 32 s := (by decide : ∀ s, s < 12 → ((1 : Int32) <<< (nI s &&& 31)).toBitVec = BitVec.twoPow 32 s) s hs
  by_cases hb : x.toBitVec.getLsbD s = true
  · have hx : x &&& (1 <<< (nI s &&& 31)) = 1 <<< (nI s &&& 31) := by
      apply Int32.toBitVec_inj.mp
      rw [Int32.toBitVec_and, e, BitVec.and_twoPow, if_pos hb]
    rw [← hx, Int32.and_assoc, Int32.and_comm _ c, ← Int32.and_assoc, hc]
    simp
  · refine absurd ?_ h
    apply Int32.toBitVec_inj.mp
    rw [Int32.toBitVec_and, e, BitVec.and_twoPow, if_neg hb]
    rfl
theorem pI_fFinA5 {P : gP} {f : Int32} {l : List Nat} {r i s : Nat} : pI (fFinA P f l) 5 r i s = pI P 5 r i s := (fFinA_same f l P).2 5 r i s (by decide)
/-- the slots of trains behind a standing in -/
theorem pI_stand {P : gP} {r i : Nat} {l : List Nat} {s : Int32} {r' i' j : Nat} : pI (fStand P r i l s) 5 r' i' j = if r' = r ∧ i' = i then (if j = 3 then s else if j = 4 then 0 else if j = 5 then 115 else if j = 6 then 1 <<< (s &&& 31) else if j = 2 ∧ s = 0 then 0 else pI P 5 r i j) else pI P 5 r' i' j := by
  unfold fStand
  by_cases h0 : s = 0
  · rw [if_pos h0]
    show pI (uI (fFinA (fStand0 P r i s) _ l) 5 r i 2 _) 5 r' i' j = _
    rw [pI_uI, pI_fFinA5]
    by_cases h : r' = r ∧ i' = i
    · obtain ⟨rfl, rfl⟩ := h
      by_cases j2 : j = 2
      · subst j2; simp [h0]; rfl
      · simp [fStand0, pI_uI, j2]
        by_cases a6 : j = 6 <;> by_cases a5 : j = 5 <;> by_cases a4 : j = 4 <;> by_cases a3 : j = 3 <;> simp_all
    · have h' : ∀ t, ¬ (5 = 5 ∧ r' = r ∧ i' = i ∧ j = t) := fun t e => h ⟨e.2.1, e.2.2.1⟩
      simp only [fStand0, pI_uI, if_neg h]
      have hz : ∀ t, ¬ (r' = r ∧ i' = i ∧ j = t) := fun t e => h ⟨e.1, e.2.1⟩
      simp [hz]
  · rw [if_neg h0]
    by_cases h : r' = r ∧ i' = i
    · obtain ⟨rfl, rfl⟩ := h
      simp [fStand0, pI_uI, h0]
      by_cases a6 : j = 6 <;> by_cases a5 : j = 5 <;> by_cases a4 : j = 4 <;> by_cases a3 : j = 3 <;> simp_all
    · simp only [fStand0, pI_uI, if_neg h]
      rw [if_neg (fun e => h ⟨e.2.1, e.2.2.1⟩), if_neg (fun e => h ⟨e.2.1, e.2.2.1⟩), if_neg (fun e => h ⟨e.2.1, e.2.2.1⟩), if_neg (fun e => h ⟨e.2.1, e.2.2.1⟩)]
end GINV
