/-! the invariant of the park (under way) -/
section GINV
theorem gNum.deed {Q : Option Value → gH → Prop} {QX : String → gH → Prop} (hQ : gNum Q) : gNum (qDeed Q QX) := fun v h' q => by
  rcases q with q | ⟨E, -, rfl⟩
  · exact hQ v h' q
  · exact ⟨_, rfl⟩
theorem gNum.I {h : gH} {F : Int32 → Prop} : gNum (qI h F) := fun v h' q => by
  obtain ⟨x, rfl, -⟩ := q
  exact ⟨x, rfl⟩
theorem gNum.IM {F : Int32 → gH → Prop} : gNum (qIM F) := fun v h' q => by
  obtain ⟨x, rfl, -⟩ := q
  exact ⟨x, rfl⟩
/-- the block m steps on -/
def nxt (nb : Nat) : Nat → Nat → Nat
  | 0, b => b
  | m + 1, b => nxt nb m (fNx nb b)
/-- held is what a train that is in b and has set out holds: its own block and all to its next stop -/
def onWay (P : gP) (r b : Nat) (held : Int32) : Prop := ¬ held &&& (1 <<< (nI b &&& 31)) = 0 ∧ ∃ m, fStop P r (nxt (pnB P r) m (fNx (pnB P r) b)) = true ∧ ∀ j, j ≤ m → ¬ held &&& (1 <<< (nI (nxt (pnB P r) j (fNx (pnB P r) b)) &&& 31)) = 0
/-- a train that has moved on one block, not a stop, is on its way still -/
theorem onWay.step {P : gP} {r b : Nat} {held : Int32} (h : onWay P r b held) (hs : fStop P r (fNx (pnB P r) b) = false) : onWay P r (fNx (pnB P r) b) held := by
  obtain ⟨-, m, h1, h2⟩ := h
  refine ⟨h2 0 (Nat.zero_le _), ?_⟩
  rcases m with _ | m
  · exact absurd h1 (by show ¬ fStop P r (fNx (pnB P r) b) = true; rw [hs]; decide)
  · exact ⟨m, h1, fun j hj => h2 (j + 1) (by omega)⟩
/-- one train -/
def inTr (P : gP) (r i : Nat) : Prop := ∃ b, b < pnB P r ∧ pI P 5 r i 3 = nI b ∧ (∃ s, 1 ≤ s ∧ s ≤ 8 ∧ pI P 5 r i 0 = nI s) ∧
  ((pI P 5 r i 5 = 115 ∧ fStop P r b = true ∧ pI P 5 r i 6 = 1 <<< (nI b &&& 31) ∧ pI P 5 r i 4 = 0 ∧ (b = 0 → pI P 5 r i 2 = 0)) ∨ ((pI P 5 r i 5 = 109 ∨ pI P 5 r i 5 = 120) ∧ onWay P r b (pI P 5 r i 6)))
/-- the holds are apart -/
def inAp (P : gP) (r : Nat) : Prop := ∀ i j, i < pnT P r → j < pnT P r → j ≠ i → pI P 5 r i 6 &&& pI P 5 r j 6 = 0
end GINV
