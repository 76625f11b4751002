/-! a state grows: a block, a train, a ride, a guest -/
section GGROW
variable {Z : gEnv} {h h' : gH} {ad ad' : gAd} {P P' : gP}
theorem gRep.grow2 (hR : gRep Z ad P h) (N C : Nat → Nat → Nat → Prop)
    (h1 : ∀ k r i, gLive P' k r i → ¬ N k r i → gLive P k r i ∧ ad' k r i = ad k r i)
    (hN : ∀ k r i, gLive P' k r i → N k r i → h' (ad' k r i) = some (gCell Z.2.2.2.1 ad' P' k r i))
    (hC : ∀ k r i, gLive P k r i → C k r i → h' (ad k r i) = some (gCell Z.2.2.2.1 ad' P' k r i))
    (ho : ∀ k r i, gLive P k r i → ¬ C k r i → h' (ad k r i) = some (gCell Z.2.2.2.1 ad P k r i))
    (hs : ∀ k r i, gLive P k r i → ¬ N k r i → ¬ C k r i → gCell Z.2.2.2.1 ad' P' k r i = gCell Z.2.2.2.1 ad P k r i)
    (h3 : ∀ k r i k' r' i', gLive P k r i → gLive P' k' r' i' → N k' r' i' → ad k r i ≠ ad' k' r' i')
    (h4 : ∀ k r i k' r' i', N k r i → N k' r' i' → ad' k r i = ad' k' r' i' → k = k' ∧ r = r' ∧ i = i') : gRep Z ad' P' h' := by
  refine hR.grow N h1 (fun k r i hl => ?_) h3 h4
  by_cases n1 : N k r i
  · exact hN k r i hl n1
  · obtain ⟨q1, q2⟩ := h1 k r i hl n1
    rw [q2]
    by_cases c1 : C k r i
    · exact hC k r i q1 c1
    · rw [hs k r i q1 n1 c1]
      exact ho k r i q1 c1
theorem gRep.ne (hR : gRep Z ad P h) {k r i k' r' i' : Nat} (l1 : gLive P k r i) (l2 : gLive P k' r' i') (hn : ¬ (k = k' ∧ r = r' ∧ i = i')) : ad k r i ≠ ad k' r' i' := fun e => hn (hR.2 _ _ _ _ _ _ l1 l2 e)
theorem grow_block {r a : Nat} {v0 v1 v2 v3 : Int32} (hR : gRep Z ad P h) (hr : r < pnR P) (hna : ∀ k r i, gLive P k r i → ad k r i ≠ a) (ha : h' a = some (.inr (2, [.int v0, .int v1, .int v2, .int v3, .int 116, .int 116])))
    (h10 : h' (ad 10 r 0) = some (.inl (Z.2.2.2.1 3, 12, gRow (va_up (fun j => if j < pnB P r then some (ad 0 r j) else none) (pnB P r) (some a)))))
    (h4 : h' (ad 4 r 0) = some (.inr (6, [.ref (ad 10 r 0), .int (nI (pnB P r + 1)), .int (pI P 4 r 0 2)])))
    (ho : ∀ x, x ≠ ad 10 r 0 → x ≠ ad 4 r 0 → ∀ c, h x = some c → h' x = some c) : gRep Z (adU ad 0 r (pnB P r) a) (fAddB P r v0 v1 v2 v3) h' := by
  have l10 : gLive P 10 r 0 := ⟨hr, rfl⟩
  have l4 : gLive P 4 r 0 := ⟨hr, rfl⟩
  have eB : ∀ x, pnB (fAddB P r v0 v1 v2 v3) x = if x = r then pnB P r + 1 else pnB P x := fun _ => rfl
  have eI : ∀ k r' i' s, pI (fAddB P r v0 v1 v2 v3) k r' i' s = if k = 0 ∧ r' = r ∧ i' = pnB P r then [v0, v1, v2, v3, 116, 116].getD s 0 else pI P k r' i' s := fun _ _ _ _ => rfl
  refine hR.grow2 (fun k r' i => k = 0 ∧ r' = r ∧ i = pnB P r) (fun k r' i => (k = 10 ∨ k = 4) ∧ r' = r) (fun k r' i hl hn => ⟨?_, adU_n hn⟩) (fun k r' i hl hn => ?_) (fun k r' i hl hc => ?_) (fun k r' i hl hc => ?_) (fun k r' i hl hn hc => ?_) (fun k r' i k2 r2 i2 hl hl2 hn => ?_) (fun k r' i k2 r2 i2 hn hn2 _ => ?_)
  · rcases k with _ | k
    · have hl1 : r' < pnR P ∧ i < pnB (fAddB P r v0 v1 v2 v3) r' := hl
      rw [eB] at hl1
      refine ⟨hl1.1, ?_⟩
      by_cases e : r' = r
      · subst e
        rw [if_pos rfl] at hl1
        have : i ≠ pnB P r' := fun e => hn ⟨rfl, rfl, e⟩
        show i < pnB P r'
        omega
      · rw [if_neg e] at hl1
        exact hl1.2
    · rcases k with _ | _ | _ | _ | _ | _ | _ | _ | _ | _ | _ | _ | _ | _ | k <;> exact hl
  · obtain ⟨rfl, rfl, rfl⟩ := hn
    rw [adU_s, ha]
    simp [gCell, eI]
  · obtain ⟨rfl | rfl, rfl⟩ := hc
    · obtain rfl : i = 0 := hl.2
      rw [h10]
      simp only [gCell, eB, if_pos]
      congr 5
      funext j
      simp only [va_up, adU]
      by_cases e : j = pnB P r'
      · subst e; simp
      · have e3 : (j < pnB P r' + 1) = (j < pnB P r') := by apply propext; omega
        simp [e, e3]
    · obtain rfl : i = 0 := hl.2
      rw [h4]
      simp [gCell, eB, eI, adU]
  · refine ho _ (hR.ne hl l10 (fun e => hc ⟨Or.inl e.1, e.2.1⟩)) (hR.ne hl l4 (fun e => hc ⟨Or.inr e.1, e.2.1⟩)) _ (hR.1 _ _ _ hl)
  · rcases k with _ | _ | _ | _ | _ | _ | _ | _ | _ | _ | _ | _ | _ | _ | _ | k
    all_goals first
      | rfl
      | (have hn2 : ¬ (r' = r ∧ i = pnB P r) := fun e => hn ⟨rfl, e.1, e.2⟩
         simp [gCell, eI, hn2]; done)
      | (have hc2 : r' ≠ r := fun e => hc ⟨by simp, e⟩
         simp [gCell, eI, eB, adU, hc2]; done)
      | (simp [gCell, eI, adU]; done)
  · obtain ⟨rfl, rfl, rfl⟩ := hn
    rw [adU_s]
    exact hna _ _ _ hl
  · obtain ⟨rfl, rfl, rfl⟩ := hn
    obtain ⟨rfl, rfl, rfl⟩ := hn2
    exact ⟨rfl, rfl, rfl⟩
theorem grow_train {r a q : Nat} {v : Int32} (hR : gRep Z ad P h) (hr : r < pnR P) (hna : ∀ k r i, gLive P k r i → ad k r i ≠ a) (hnq : ∀ k r i, gLive P k r i → ad k r i ≠ q) (haq : a ≠ q) (ha : h' a = some (.inr (7, [.int v, .ref q, .int 0, .int 0, .int 0, .int 115, .int 1, .int 0, .int 0]))) (hq : h' q = some (.inl (Z.2.2.2.1 2, 8, gRow (fun _ => none))))
    (h11 : h' (ad 11 r 0) = some (.inl (Z.2.2.2.1 4, 4, gRow (va_up (fun j => if j < pnT P r then some (ad 5 r j) else none) (pnT P r) (some a)))))
    (h3 : h' (ad 3 r 0) = some (.inr (5, [.int (pI P 3 r 0 0), .int (pI P 3 r 0 1), .int (pI P 3 r 0 2), .ref (ad 4 r 0), .ref (ad 11 r 0), .int (nI (pnT P r + 1)), .ref (ad 2 r 0), .ref (ad 2 r 1), .ref (ad 2 r 2), .int (pI P 3 r 0 9), .int (pI P 3 r 0 10), .int (pI P 3 r 0 11), .int (pI P 3 r 0 12), .int (pI P 3 r 0 13), .int (pI P 3 r 0 14)])))
    (ho : ∀ x, x ≠ ad 11 r 0 → x ≠ ad 3 r 0 → ∀ c, h x = some c → h' x = some c) : gRep Z (adU (adU ad 5 r (pnT P r) a) 12 r (pnT P r) q) (fAddT P r v) h' := by
  have l11 : gLive P 11 r 0 := ⟨hr, rfl⟩
  have l3 : gLive P 3 r 0 := ⟨hr, rfl⟩
  have eT : ∀ x, pnT (fAddT P r v) x = if x = r then pnT P r + 1 else pnT P x := fun _ => rfl
  have eI : ∀ k r' i' s, pI (fAddT P r v) k r' i' s = if k = 5 ∧ r' = r ∧ i' = pnT P r then [v, 0, 0, 0, 0, 115, 1, 0, 0].getD s 0 else pI P k r' i' s := fun _ _ _ _ => rfl
  have eD : ∀ r' i' j, pRD (fAddT P r v) r' i' j = if r' = r ∧ i' = pnT P r then none else pRD P r' i' j := fun _ _ _ => rfl
  refine hR.grow2 (fun k r' i => (k = 5 ∨ k = 12) ∧ r' = r ∧ i = pnT P r) (fun k r' i => (k = 11 ∨ k = 3) ∧ r' = r) (fun k r' i hl hn => ⟨?_, ?_⟩) (fun k r' i hl hn => ?_) (fun k r' i hl hc => ?_) (fun k r' i hl hc => ?_) (fun k r' i hl hn hc => ?_) (fun k r' i k2 r2 i2 hl hl2 hn => ?_) (fun k r' i k2 r2 i2 hn hn2 e => ?_)
  · have aux : (k = 5 ∨ k = 12) → (r' < pnR P ∧ i < pnT (fAddT P r v) r') → r' < pnR P ∧ i < pnT P r' := by
      intro hk hl1
      rw [eT] at hl1
      refine ⟨hl1.1, ?_⟩
      by_cases e : r' = r
      · subst e
        rw [if_pos rfl] at hl1
        have : i ≠ pnT P r' := fun e => hn ⟨hk, rfl, e⟩
        omega
      · rw [if_neg e] at hl1
        exact hl1.2
    rcases k with _ | _ | _ | _ | _ | _ | _ | _ | _ | _ | _ | _ | _ | _ | _ | k
    all_goals first
      | exact hl
      | exact aux (by simp) hl
  · rw [adU_n (fun e => hn ⟨Or.inr e.1, e.2⟩), adU_n (fun e => hn ⟨Or.inl e.1, e.2⟩)]
  · obtain ⟨rfl | rfl, rfl, rfl⟩ := hn
    · rw [adU_k (by decide), adU_s, ha]
      simp [gCell, eI, adU]
    · rw [adU_s, hq]
      simp [gCell, eD]
  · obtain ⟨rfl | rfl, rfl⟩ := hc
    · obtain rfl : i = 0 := hl.2
      rw [h11]
      simp only [gCell, eT, if_pos]
      congr 5
      funext j
      simp only [va_up, adU]
      by_cases e : j = pnT P r'
      · subst e; simp
      · have e3 : (j < pnT P r' + 1) = (j < pnT P r') := by apply propext; omega
        simp [e, e3]
    · obtain rfl : i = 0 := hl.2
      rw [h3]
      simp [gCell, eT, eI, adU]
  · refine ho _ (hR.ne hl l11 (fun e => hc ⟨Or.inl e.1, e.2.1⟩)) (hR.ne hl l3 (fun e => hc ⟨Or.inr e.1, e.2.1⟩)) _ (hR.1 _ _ _ hl)
  · rcases k with _ | _ | _ | _ | _ | _ | _ | _ | _ | _ | _ | _ | _ | _ | _ | k
    all_goals first
      | rfl
      | (have hn2 : ¬ (r' = r ∧ i = pnT P r) := fun e => hn ⟨by simp, e.1, e.2⟩
         simp [gCell, eI, eD, adU, hn2]; done)
      | (have hc2 : r' ≠ r := fun e => hc ⟨by simp, e⟩
         simp [gCell, eI, eT, adU, hc2]; done)
      | (simp [gCell, eI, adU]; done)
  · obtain ⟨rfl | rfl, rfl, rfl⟩ := hn
    · rw [adU_k (by decide), adU_s]
      exact hna _ _ _ hl
    · rw [adU_s]
      exact hnq _ _ _ hl
  · obtain ⟨rfl | rfl, rfl, rfl⟩ := hn <;> obtain ⟨rfl | rfl, rfl, rfl⟩ := hn2
    · exact ⟨rfl, rfl, rfl⟩
    · rw [adU_k (by decide), adU_s, adU_s] at e
      exact absurd e haq
    · rw [adU_s, adU_k (by decide), adU_s] at e
      exact absurd e.symm haq
    · exact ⟨rfl, rfl, rfl⟩
theorem grow_guest {a : Nat} {v0 v1 v2 : Int32} (hR : gRep Z ad P h) (hna : ∀ k r i, gLive P k r i → ad k r i ≠ a) (hRD : ∀ r i j g, gLive P 12 r i → pRD P r i j = some g → g < pnG P) (hPL : ∀ r i j g, gLive P 13 r i → pPL P r i j = some g → g < pnG P) (ha : h' a = some (.inr (3, [.int v0, .int v1, .int v2, .int 0, .int 0, .int 0, .int 112, .int (-1), .int 0, .null, .int 0])))
    (h9 : h' (ad 9 0 0) = some (.inl (Z.2.2.2.1 2, 60, gRow (va_up (fun j => if j < pnG P then some (ad 1 j 0) else none) (pnG P) (some a)))))
    (h6 : h' (ad 6 0 0) = some (.inr (8, [.ref (ad 7 0 0), .int (nI (pnR P)), .ref (ad 8 0 0), .int (pI P 6 0 0 3), .ref (ad 9 0 0), .int (nI (pnG P + 1)), .int (pI P 6 0 0 6), .int (pI P 6 0 0 7), .int (pI P 6 0 0 8), .int (pI P 6 0 0 9), .long (pJ P 10 + v0.toInt64), .long (pJ P 11), .long (pJ P 12)])))
    (ho : ∀ x, x ≠ ad 9 0 0 → x ≠ ad 6 0 0 → ∀ c, h x = some c → h' x = some c) : gRep Z (adU ad 1 (pnG P) 0 a) (fEnter P v0 v1 v2) h' := by
  have l9 : gLive P 9 0 0 := ⟨rfl, rfl⟩
  have l6 : gLive P 6 0 0 := ⟨rfl, rfl⟩
  have eG : pnG (fEnter P v0 v1 v2) = pnG P + 1 := rfl
  have eI : ∀ k r' i' s, pI (fEnter P v0 v1 v2) k r' i' s = if k = 1 ∧ r' = pnG P ∧ i' = 0 then [v0, v1, v2, 0, 0, 0, 112, -1, 0, 0, 0].getD s 0 else pI P k r' i' s := fun _ _ _ _ => rfl
  have eJ : ∀ s, pJ (fEnter P v0 v1 v2) s = if s = 10 then pJ P 10 + v0.toInt64 else pJ P s := fun _ => rfl
  have eL : ∀ g, pGL (fEnter P v0 v1 v2) g = if g = pnG P then none else pGL P g := fun _ => rfl
  have eD : ∀ r' i' j, pRD (fEnter P v0 v1 v2) r' i' j = pRD P r' i' j := fun _ _ _ => rfl
  have eP : ∀ r' i' j, pPL (fEnter P v0 v1 v2) r' i' j = pPL P r' i' j := fun _ _ _ => rfl
  refine hR.grow2 (fun k r' i => k = 1 ∧ r' = pnG P ∧ i = 0) (fun k r' i => k = 9 ∨ k = 6) (fun k r' i hl hn => ⟨?_, adU_n hn⟩) (fun k r' i hl hn => ?_) (fun k r' i hl hc => ?_) (fun k r' i hl hc => ?_) (fun k r' i hl hn hc => ?_) (fun k r' i k2 r2 i2 hl hl2 hn => ?_) (fun k r' i k2 r2 i2 hn hn2 _ => ?_)
  · rcases k with _ | _ | k
    · exact hl
    · have hl1 : r' < pnG P + 1 ∧ i = 0 := hl
      have : r' ≠ pnG P := fun e => hn ⟨rfl, e, hl1.2⟩
      exact ⟨by omega, hl1.2⟩
    · rcases k with _ | _ | _ | _ | _ | _ | _ | _ | _ | _ | _ | _ | _ | k <;> exact hl
  · obtain ⟨rfl, rfl, rfl⟩ := hn
    rw [adU_s, ha]
    simp [gCell, eI, eL, va_rf]
  · rcases hc with rfl | rfl
    · obtain ⟨rfl, rfl⟩ := hl
      rw [h9]
      simp only [gCell, eG]
      congr 5
      funext j
      simp only [va_up, adU]
      by_cases e : j = pnG P
      · subst e; simp
      · have e3 : (j < pnG P + 1) = (j < pnG P) := by apply propext; omega
        simp [e, e3]
    · obtain ⟨rfl, rfl⟩ := hl
      rw [h6]
      simp [gCell, eG, eI, eJ, adU, show pnR (fEnter P v0 v1 v2) = pnR P from rfl]
  · refine ho _ (hR.ne hl l9 (fun e => hc (Or.inl e.1))) (hR.ne hl l6 (fun e => hc (Or.inr e.1))) _ (hR.1 _ _ _ hl)
  · have hmap : ∀ (o : Option Nat), (∀ g, o = some g → g < pnG P) → o.map (fun g => adU ad 1 (pnG P) 0 a 1 g 0) = o.map (fun g => ad 1 g 0) := by
      intro o ho2
      cases o with
      | none => rfl
      | some g =>
        have := ho2 g rfl
        simp only [Option.map_some, adU]
        rw [if_neg (fun e => by omega)]
    rcases k with _ | _ | _ | _ | _ | _ | _ | _ | _ | _ | _ | _ | _ | _ | _ | k
    all_goals first
      | rfl
      | (exfalso; revert hc; simp; done)
      | (have hn2 : ¬ (r' = pnG P) := fun e => hn ⟨rfl, e, hl.2⟩
         simp [gCell, eI, eL, adU, hn2]; done)
      | (simp only [gCell, eD]
         congr 5
         funext j
         exact hmap _ (fun g hg => hRD r' i j g hl hg))
      | (simp only [gCell, eP]
         congr 5
         funext j
         exact hmap _ (fun g hg => hPL r' i j g hl hg))
  · obtain ⟨rfl, rfl, rfl⟩ := hn
    rw [adU_s]
    exact hna _ _ _ hl
  · obtain ⟨rfl, rfl, rfl⟩ := hn
    obtain ⟨rfl, rfl, rfl⟩ := hn2
    exact ⟨rfl, rfl, rfl⟩
set_option maxHeartbeats 4000000 in
set_option maxRecDepth 100000 in
theorem c_X4_append {Z : gEnv} {ad : gAd} {P : gP} {h : gH} (G : gG Z) (hR : gRep Z ad P h) {r : Nat} (hl : gLive P 4 r 0) (hB : pnB P r < 12) {a : Nat} {v0 v1 v2 v3 : Int32} (ha : h a = some (.inr (2, [.int v0, .int v1, .int v2, .int v3, .int 116, .int 116]))) (hna : ∀ k r i, gLive P k r i → ad k r i ≠ a) : gMet Z yX4_append cX4_append 2 ((Option.some FieldType.int)) 1 0 0 [.ref (ad 4 r 0), .ref a] h (qIM (fun _ h2 => gRep Z (adU ad 0 r (pnB P r) a) (fAddB P r v0 v1 v2 v3) h2)) (qN) := by
  refine g_enter (lv := [(0, .ref (ad 4 r 0)), (1, .ref a)]) G.2 (by decide +kernel) (Nat.le_of_ble_eq_true rfl) rfl (fun Γ X Nt E RM => ?_)
  refine g_aload_n X dX4_append_0 rfl ?_
  refine gp_geti (j := 1) X hR hl cl_X4 lk_X4_17 rfl (by decide) rfl rfl dX4_append_1 (fun x1 e1 => ?_)
  refine g_if_lt 19 X dX4_append_4 (by decide) (fun c4 => ?_) (fun c4 => ?_)
  · skip
    exact absurd c4 (by rw [e1]; exact nI_pos (by omega))
  · skip
    refine g_aload_n X dX4_append_7 rfl ?_
    refine gp_geti (j := 1) X hR hl cl_X4 lk_X4_17 rfl (by decide) rfl rfl dX4_append_8 (fun x8 e8 => ?_)
    refine g_aload_n X dX4_append_11 rfl ?_
    refine gp_get (j := 0) (v := .ref (ad 10 r 0)) X hR hl cl_X4 lk_X4_11 rfl (by decide) rfl rfl dX4_append_12 ?_
    refine gp_alen (v := 12) X hR hl G.t3 rfl rfl dX4_append_15 ?_
    refine g_icmp_lt 21 X dX4_append_16 (by decide) (fun c16 => ?_) (fun c16 => ?_)
    · skip
      refine g_aload_n X dX4_append_21 rfl ?_
      refine gp_get (j := 0) (v := .ref (ad 10 r 0)) X hR hl cl_X4 lk_X4_11 rfl (by decide) rfl rfl dX4_append_22 ?_
      refine g_aload_n X dX4_append_25 rfl ?_
      refine gp_geti (j := 1) X hR hl cl_X4 lk_X4_17 rfl (by decide) rfl rfl dX4_append_26 (fun x26 e26 => ?_)
      refine g_aload_n X dX4_append_29 rfl ?_
      have f10 := hR.1 10 r 0 ⟨hl.1, rfl⟩
      refine gw_aast (j := pnB P r) X cl_X0 G.t3 f10 ha e26 hB (by decide) dX4_append_30 (fun h1 f10 fx1 => ?_)
      have n4 : ad 4 r 0 ≠ ad 10 r 0 := hR.ne hl ⟨hl.1, rfl⟩ (by simp)
      have f4 := (fx1 _ n4).trans (hR.1 4 r 0 hl)
      refine g_aload_n X dX4_append_31 rfl ?_
      refine g_dup X dX4_append_32 rfl ?_
      refine gw_geti (j := 1) X cl_X4 lk_X4_17 rfl (by decide) f4 rfl dX4_append_33 (fun x33 e33 => ?_)
      refine g_iconst (v := 1) X dX4_append_36 (by decide) ?_
      refine g_iadd X dX4_append_37 (fun x37 e37 => ?_)
      refine gw_put (j := 1) (fs' := [.ref (ad 10 r 0), .int x37, .int (pI P 4 r 0 2)]) X cl_X4 lk_X4_17 rfl (by decide) f4 rfl rfl rfl (Nat.le_of_ble_eq_true rfl) rfl dX4_append_38 (fun h2 f4 fx2 => ?_)
      refine g_aload_n X dX4_append_41 rfl ?_
      refine gw_geti (j := 1) X cl_X4 lk_X4_17 rfl (by decide) f4 rfl dX4_append_42 (fun x42 e42 => ?_)
      refine g_iconst (v := 1) X dX4_append_45 (by decide) ?_
      refine g_isub X dX4_append_46 (fun x46 e46 => ?_)
      refine g_ireturn X E rfl dX4_append_47 (by decide) (by decide) ?_
      have hx37 : x37 = nI (pnB P r + 1) := by rw [e37, e33]; exact nI_1 _
      rw [hx37] at f4
      have na10 : a ≠ ad 10 r 0 := (hna 10 r 0 ⟨hl.1, rfl⟩).symm
      have na4 : a ≠ ad 4 r 0 := (hna 4 r 0 hl).symm
      exact ⟨_, rfl, grow_block hR hl.1 hna ((fx2 _ na4).trans ((fx1 _ na10).trans ha)) ((fx2 _ n4.symm).trans f10) f4 (fun x m1 m2 c hc => (fx2 x m2).trans ((fx1 x m1).trans hc))⟩
    · skip
      exact absurd (by rw [e8]; exact nI_lt (b := 12) hB (by decide)) c16
theorem grow_ride {a q5 q9 q17 q24 q28 q35 q39 q46 q50 : Nat} {v0 v1 v2 : Int32} (hR : gRep Z ad P h) (hna : ∀ k r i, gLive P k r i → ad k r i < a) (hGL : ∀ g q, g < pnG P → pGL P g = some q → q.1 < pnR P) (hq : gRide Z h' a q5 q9 q17 q24 q28 q35 q39 q46 q50 v0 v1 v2)
    (h7 : h' (ad 7 0 0) = some (.inl (Z.2.2.2.1 0, 4, gRow (va_up (fun j => if j < pnR P then some (ad 3 j 0) else none) (pnR P) (some a)))))
    (h6 : h' (ad 6 0 0) = some (.inr (8, [.ref (ad 7 0 0), .int (nI (pnR P + 1)), .ref (ad 8 0 0), .int (pI P 6 0 0 3), .ref (ad 9 0 0), .int (nI (pnG P)), .int (pI P 6 0 0 6), .int (pI P 6 0 0 7), .int (pI P 6 0 0 8), .int (pI P 6 0 0 9), .long (pJ P 10), .long (pJ P 11), .long (pJ P 12)])))
    (ho : ∀ x, x ≠ ad 7 0 0 → x ≠ ad 6 0 0 → ∀ c, h x = some c → h' x = some c) : ∃ ad2 : gAd, ad2 6 0 0 = ad 6 0 0 ∧ gRep Z ad2 (fAddR P v0 v1 v2) h' := by
  obtain ⟨⟨o1, o2, o3, o4, o5, o6, o7, o8, o9⟩, fa, f5, f9, f17, f24, f28, f35, f39, f46, f50⟩ := hq
  obtain ⟨A, hA⟩ : ∃ A : gAd, A = fun k r i => if r = pnR P then (match k with | 3 => a | 4 => q5 | 10 => q9 | 11 => q17 | 2 => (match i with | 0 => q24 | 1 => q35 | _ => q46) | 13 => (match i with | 0 => q28 | 1 => q39 | _ => q50) | _ => ad k r i) else ad k r i := ⟨_, rfl⟩
  have A0 : ∀ k r i, r ≠ pnR P → A k r i = ad k r i := fun k r i e => by rw [hA]; exact if_neg e
  have A3 : ∀ i, A 3 (pnR P) i = a := fun i => by rw [hA]; exact if_pos rfl
  have A4 : ∀ i, A 4 (pnR P) i = q5 := fun i => by rw [hA]; exact if_pos rfl
  have A10 : ∀ i, A 10 (pnR P) i = q9 := fun i => by rw [hA]; exact if_pos rfl
  have A11 : ∀ i, A 11 (pnR P) i = q17 := fun i => by rw [hA]; exact if_pos rfl
  have A20 : A 2 (pnR P) 0 = q24 := by rw [hA]; exact if_pos rfl
  have A21 : A 2 (pnR P) 1 = q35 := by rw [hA]; exact if_pos rfl
  have A22 : A 2 (pnR P) 2 = q46 := by rw [hA]; exact if_pos rfl
  have B0 : A 13 (pnR P) 0 = q28 := by rw [hA]; exact if_pos rfl
  have B1 : A 13 (pnR P) 1 = q39 := by rw [hA]; exact if_pos rfl
  have B2 : A 13 (pnR P) 2 = q50 := by rw [hA]; exact if_pos rfl
  have Ak : ∀ k r i, k ≠ 2 → k ≠ 3 → k ≠ 4 → k ≠ 10 → k ≠ 11 → k ≠ 13 → A k r i = ad k r i := by
    intro k r i e2 e3 e4 e10 e11 e13
    rw [hA]
    by_cases e : r = pnR P
    · simp only [if_pos e]
      try (split <;> first | (exfalso; omega) | rfl)
    · exact if_neg e
  have eI : ∀ k r i s, pI (fAddR P v0 v1 v2) k r i s = if k = 2 ∧ r = pnR P ∧ i = 2 ∧ s = 1 then 0 else if k = 2 ∧ r = pnR P ∧ i = 1 ∧ s = 1 then 0 else if k = 2 ∧ r = pnR P ∧ i = 0 ∧ s = 1 then 0 else if k = 4 ∧ r = pnR P ∧ i = 0 ∧ s = 2 then 0 else if k = 3 ∧ r = pnR P ∧ i = 0 then [v0, v1, v2, 0, 0, 0, 0, 0, 0, -1, 0, 0, 0, 0, 0].getD s 0 else pI P k r i s := fun _ _ _ _ => rfl
  have eR : pnR (fAddR P v0 v1 v2) = pnR P + 1 := rfl
  have eG : pnG (fAddR P v0 v1 v2) = pnG P := rfl
  have eB : ∀ r, pnB (fAddR P v0 v1 v2) r = if r = pnR P then 0 else pnB P r := fun _ => rfl
  have eT : ∀ r, pnT (fAddR P v0 v1 v2) r = if r = pnR P then 0 else pnT P r := fun _ => rfl
  have eJ : ∀ s, pJ (fAddR P v0 v1 v2) s = pJ P s := fun _ => rfl
  have eL : ∀ g, pGL (fAddR P v0 v1 v2) g = pGL P g := fun _ => rfl
  have eD : ∀ r i j, pRD (fAddR P v0 v1 v2) r i j = pRD P r i j := fun _ _ _ => rfl
  have eP : ∀ r i j, pPL (fAddR P v0 v1 v2) r i j = if r = pnR P ∧ i = 2 then none else if r = pnR P ∧ i = 1 then none else if r = pnR P ∧ i = 0 then none else pPL P r i j := fun _ _ _ => rfl
  have i3 : ∀ i, i < 3 → i = 0 ∨ i = 1 ∨ i = 2 := fun i hi => by omega
  have l7 : gLive P 7 0 0 := ⟨rfl, rfl⟩
  have l6 : gLive P 6 0 0 := ⟨rfl, rfl⟩
  refine ⟨A, Ak 6 0 0 (by decide) (by decide) (by decide) (by decide) (by decide) (by decide), ?_⟩
  refine hR.grow2 (fun k r i => r = pnR P ∧ ((k = 3 ∨ k = 4 ∨ k = 10 ∨ k = 11) ∧ i = 0 ∨ (k = 2 ∨ k = 13) ∧ i < 3)) (fun k r i => k = 7 ∨ k = 6) (fun k r i hl hn => ?_) (fun k r i hl hn => ?_) (fun k r i hl hc => ?_) (fun k r i hl hc => ?_) (fun k r i hl hn hc => ?_) (fun k r i k2 r2 i2 hl hl2 hn => ?_) (fun k r i k2 r2 i2 hn hn2 e => ?_)
  · have a1 : (k = 3 ∨ k = 4 ∨ k = 10 ∨ k = 11) → (r < pnR P + 1 ∧ i = 0) → (r < pnR P ∧ i = 0) ∧ A k r i = ad k r i := fun hk hl => by
      have hr : r ≠ pnR P := fun e => hn ⟨e, Or.inl ⟨hk, hl.2⟩⟩
      exact ⟨⟨by omega, hl.2⟩, A0 k r i hr⟩
    have a2 : (k = 2 ∨ k = 13) → (r < pnR P + 1 ∧ i < 3) → (r < pnR P ∧ i < 3) ∧ A k r i = ad k r i := fun hk hl => by
      have hr : r ≠ pnR P := fun e => hn ⟨e, Or.inr ⟨hk, hl.2⟩⟩
      exact ⟨⟨by omega, hl.2⟩, A0 k r i hr⟩
    have a3 : ∀ x : Nat → Nat, (r < pnR P + 1 ∧ i < if r = pnR P then 0 else x r) → (r < pnR P ∧ i < x r) ∧ A k r i = ad k r i := fun x hl => by
      by_cases e : r = pnR P
      · rw [if_pos e] at hl
        omega
      · rw [if_neg e] at hl
        exact ⟨⟨by omega, hl.2⟩, A0 k r i e⟩
    rcases k with _ | _ | _ | _ | _ | _ | _ | _ | _ | _ | _ | _ | _ | _ | _ | k
    all_goals first
      | exact a1 (by simp) hl
      | exact a2 (by simp) hl
      | exact a3 _ hl
      | exact ⟨hl, Ak _ r i (by simp) (by simp) (by simp) (by simp) (by simp) (by simp)⟩
  · obtain ⟨rfl, ⟨rfl | rfl | rfl | rfl, rfl⟩ | ⟨rfl | rfl, h3⟩⟩ := hn
    · rw [A3, fa]
      simp [gCell, eI, eT, A4, A11, A20, A21, A22]
      try rfl
    · rw [A4, f5]
      simp [gCell, eI, eB, A10]
      try rfl
    · rw [A10, f9]
      simp [gCell, eB]
    · rw [A11, f17]
      simp [gCell, eT]
    · rcases i3 i h3 with rfl | rfl | rfl
      · rw [A20, f24]; simp [gCell, eI, B0]
      · rw [A21, f35]; simp [gCell, eI, B1]
      · rw [A22, f46]; simp [gCell, eI, B2]
    · rcases i3 i h3 with rfl | rfl | rfl
      · rw [B0, f28]; simp [gCell, eP]
      · rw [B1, f39]; simp [gCell, eP]
      · rw [B2, f50]; simp [gCell, eP]
  · rcases hc with rfl | rfl
    · obtain ⟨rfl, rfl⟩ := hl
      rw [h7]
      simp only [gCell, eR]
      congr 5
      funext j
      simp only [va_up]
      by_cases e : j = pnR P
      · subst e; simp [A3]
      · have e3 : (j < pnR P + 1) = (j < pnR P) := by apply propext; omega
        simp [e, e3, A0 3 j 0 e]
    · obtain ⟨rfl, rfl⟩ := hl
      rw [h6]
      simp [gCell, eR, eG, eI, eJ, Ak]
  · refine ho _ (hR.ne hl l7 (fun e => hc (Or.inl e.1))) (hR.ne hl l6 (fun e => hc (Or.inr e.1))) _ (hR.1 _ _ _ hl)
  · have hr : (k = 0 ∨ k = 2 ∨ k = 3 ∨ k = 4 ∨ k = 5 ∨ k = 10 ∨ k = 11 ∨ k = 12 ∨ k = 13) → r ≠ pnR P := by
      intro hk e
      rcases hk with rfl | rfl | rfl | rfl | rfl | rfl | rfl | rfl | rfl <;> exact absurd hl.1 (by rw [e]; exact Nat.lt_irrefl _)
    have hpg : (pGL P r).map (fun q => A 2 q.1 q.2) = (pGL P r).map (fun q => ad 2 q.1 q.2) ∨ ¬ k = 1 := by
      by_cases hk : k = 1
      · left
        subst hk
        have hg : r < pnG P := hl.1
        cases hx : pGL P r with
        | none => rfl
        | some q =>
          have := hGL r q hg hx
          simp only [Option.map_some]
          rw [A0 2 q.1 q.2 (by omega)]
      · right; exact hk
    rcases k with _ | _ | _ | _ | _ | _ | _ | _ | _ | _ | _ | _ | _ | _ | _ | k
    all_goals first
      | (exfalso; revert hc; simp; done)
      | rfl
      | (have hr2 := hr (by simp)
         simp [gCell, eI, eB, eT, eD, eP, hr2, A0, Ak]; done)
      | (rcases hpg with hpg | hpg
         · simp only [gCell, eI, eL, hpg]; simp; done
         · exact absurd rfl hpg)
      | (simp [gCell, eI, eG, Ak]; done)
  · obtain ⟨rfl, hn⟩ := hn
    refine Nat.ne_of_lt (Nat.lt_of_lt_of_le (hna _ _ _ hl) ?_)
    rcases hn with ⟨rfl | rfl | rfl | rfl, rfl⟩ | ⟨rfl | rfl, h3⟩
    · rw [A3]; exact Nat.le_refl _
    · rw [A4]; omega
    · rw [A10]; omega
    · rw [A11]; omega
    · rcases i3 i2 h3 with rfl | rfl | rfl
      · rw [A20]; omega
      · rw [A21]; omega
      · rw [A22]; omega
    · rcases i3 i2 h3 with rfl | rfl | rfl
      · rw [B0]; omega
      · rw [B1]; omega
      · rw [B2]; omega
  · obtain ⟨rfl, hn⟩ := hn
    obtain ⟨rfl, hn2⟩ := hn2
    have key : ∀ k i, ((k = 3 ∨ k = 4 ∨ k = 10 ∨ k = 11) ∧ i = 0 ∨ (k = 2 ∨ k = 13) ∧ i < 3) → (A k (pnR P) i, k, i) ∈ [(a, 3, 0), (q5, 4, 0), (q9, 10, 0), (q17, 11, 0), (q24, 2, 0), (q28, 13, 0), (q35, 2, 1), (q39, 13, 1), (q46, 2, 2), (q50, 13, 2)] := by
      intro k i hk
      rcases hk with ⟨rfl | rfl | rfl | rfl, rfl⟩ | ⟨rfl | rfl, h3⟩
      · rw [A3]; simp
      · rw [A4]; simp
      · rw [A10]; simp
      · rw [A11]; simp
      · rcases i3 i h3 with rfl | rfl | rfl
        · rw [A20]; simp
        · rw [A21]; simp
        · rw [A22]; simp
      · rcases i3 i h3 with rfl | rfl | rfl
        · rw [B0]; simp
        · rw [B1]; simp
        · rw [B2]; simp
    have m1 := key k i hn
    have m2 := key k2 i2 hn2
    rw [e] at m1
    simp only [List.mem_cons, Prod.mk.injEq, List.not_mem_nil, or_false] at m1 m2
    omega
set_option maxHeartbeats 4000000 in
set_option maxRecDepth 100000 in
theorem c_X3_putTrain {Z : gEnv} {ad : gAd} {P : gP} {h : gH} (G : gG Z) (hR : gRep Z ad P h) {r : Nat} (hl : gLive P 3 r 0) (hB : pnT P r < 4) {a q : Nat} {v0 : Int32} (ha : h a = some (.inr (7, [.int v0, .ref q, .int 0, .int 0, .int 0, .int 115, .int 1, .int 0, .int 0]))) (hqa : h q = some (.inl (Z.2.2.2.1 2, 8, gRow (fun _ => none)))) (haq : a ≠ q) (hna : ∀ k r i, gLive P k r i → ad k r i ≠ a) (hnq : ∀ k r i, gLive P k r i → ad k r i ≠ q) : gMet Z yX3_putTrain cX3_putTrain 2 ((Option.some FieldType.int)) 1 0 0 [.ref (ad 3 r 0), .ref a] h (qIM (fun x h2 => x = nI (pnT P r) ∧ gRep Z (adU (adU ad 5 r (pnT P r) a) 12 r (pnT P r) q) (fAddT P r v0) h2)) (qN) := by
  refine g_enter (lv := [(0, .ref (ad 3 r 0)), (1, .ref a)]) G.2 (by decide +kernel) (Nat.le_of_ble_eq_true rfl) rfl (fun Γ X Nt E RM => ?_)
  refine g_aload_n X dX3_putTrain_0 rfl ?_
  refine gp_geti (j := 5) X hR hl cl_X3 lk_X3_50 rfl (by decide) rfl rfl dX3_putTrain_1 (fun x1 e1 => ?_)
  refine g_if_lt 19 X dX3_putTrain_4 (by decide) (fun c4 => ?_) (fun c4 => ?_)
  · skip
    exact absurd c4 (by rw [e1]; exact nI_pos (by omega))
  · skip
    refine g_aload_n X dX3_putTrain_7 rfl ?_
    refine gp_geti (j := 5) X hR hl cl_X3 lk_X3_50 rfl (by decide) rfl rfl dX3_putTrain_8 (fun x8 e8 => ?_)
    refine g_aload_n X dX3_putTrain_11 rfl ?_
    refine gp_get (j := 4) (v := .ref (ad 11 r 0)) X hR hl cl_X3 lk_X3_20 rfl (by decide) rfl rfl dX3_putTrain_12 ?_
    refine gp_alen (v := 4) X hR hl G.t4 rfl rfl dX3_putTrain_15 ?_
    refine g_icmp_lt 21 X dX3_putTrain_16 (by decide) (fun c16 => ?_) (fun c16 => ?_)
    · skip
      refine g_aload_n X dX3_putTrain_21 rfl ?_
      refine gp_get (j := 4) (v := .ref (ad 11 r 0)) X hR hl cl_X3 lk_X3_20 rfl (by decide) rfl rfl dX3_putTrain_22 ?_
      refine g_aload_n X dX3_putTrain_25 rfl ?_
      refine gp_geti (j := 5) X hR hl cl_X3 lk_X3_50 rfl (by decide) rfl rfl dX3_putTrain_26 (fun x26 e26 => ?_)
      refine g_aload_n X dX3_putTrain_29 rfl ?_
      have f11 := hR.1 11 r 0 ⟨hl.1, rfl⟩
      refine gw_aast (j := pnT P r) X cl_X5 G.t4 f11 ha e26 hB (by decide) dX3_putTrain_30 (fun h1 f11 fx1 => ?_)
      have n3 : ad 3 r 0 ≠ ad 11 r 0 := hR.ne hl ⟨hl.1, rfl⟩ (by simp)
      have f3 := (fx1 _ n3).trans (hR.1 3 r 0 hl)
      refine g_aload_n X dX3_putTrain_31 rfl ?_
      refine g_dup X dX3_putTrain_32 rfl ?_
      refine gw_geti (j := 5) X cl_X3 lk_X3_50 rfl (by decide) f3 rfl dX3_putTrain_33 (fun x33 e33 => ?_)
      refine g_iconst (v := 1) X dX3_putTrain_36 (by decide) ?_
      refine g_iadd X dX3_putTrain_37 (fun x37 e37 => ?_)
      refine gw_put (j := 5) (fs' := [.int (pI P 3 r 0 0), .int (pI P 3 r 0 1), .int (pI P 3 r 0 2), .ref (ad 4 r 0), .ref (ad 11 r 0), .int x37, .ref (ad 2 r 0), .ref (ad 2 r 1), .ref (ad 2 r 2), .int (pI P 3 r 0 9), .int (pI P 3 r 0 10), .int (pI P 3 r 0 11), .int (pI P 3 r 0 12), .int (pI P 3 r 0 13), .int (pI P 3 r 0 14)]) X cl_X3 lk_X3_50 rfl (by decide) f3 rfl rfl rfl (Nat.le_of_ble_eq_true rfl) rfl dX3_putTrain_38 (fun h2 f3 fx2 => ?_)
      refine g_aload_n X dX3_putTrain_41 rfl ?_
      refine gw_geti (j := 5) X cl_X3 lk_X3_50 rfl (by decide) f3 rfl dX3_putTrain_42 (fun x42 e42 => ?_)
      refine g_iconst (v := 1) X dX3_putTrain_45 (by decide) ?_
      refine g_isub X dX3_putTrain_46 (fun x46 e46 => ?_)
      refine g_ireturn X E rfl dX3_putTrain_47 (by decide) (by decide) ?_
      have hx37 : x37 = nI (pnT P r + 1) := by rw [e37, e33]; exact nI_1 _
      rw [hx37] at f3
      have na11 : a ≠ ad 11 r 0 := (hna 11 r 0 ⟨hl.1, rfl⟩).symm
      have na3 : a ≠ ad 3 r 0 := (hna 3 r 0 hl).symm
      have nq11 : q ≠ ad 11 r 0 := (hnq 11 r 0 ⟨hl.1, rfl⟩).symm
      have nq3 : q ≠ ad 3 r 0 := (hnq 3 r 0 hl).symm
      exact ⟨_, rfl, by rw [e46, e42, hx37]; exact nI_pred _, grow_train hR hl.1 hna hnq haq ((fx2 _ na3).trans ((fx1 _ na11).trans ha)) ((fx2 _ nq3).trans ((fx1 _ nq11).trans hqa)) ((fx2 _ n3.symm).trans f11) f3 (fun x m1 m2 c hc => (fx2 x m2).trans ((fx1 x m1).trans hc))⟩
    · skip
      exact absurd (by rw [e8]; exact nI_lt (b := 4) hB (by decide)) c16
set_option maxHeartbeats 4000000 in
set_option maxRecDepth 100000 in
theorem c_X6_addBlock {Z : gEnv} {ad : gAd} {P : gP} {h : gH} (G : gG Z) (hR : gRep Z ad P h) (hW : Wf P) {x : Int32} {r : Nat} (hx : x = nI r) (hr : r < pnR P) (hcl0 : pI P 4 r 0 2 = 0) (hB12 : pnB P r < 12) {k a b c : Int32} (ha : ¬ a < 1 ∧ ¬ 20 < a) (hb : ¬ b < (-9) ∧ ¬ 9 < b) (hc : ¬ c < 0 ∧ ¬ 9 < c) (hk : (k = 115 ∧ b = 0 ∧ c = 0) ∨ (k = 98 ∧ b = 0 ∧ c = 0) ∨ k = 108 ∨ k = 116) : gMet Z yX6_addBlock cX6_addBlock 7 ((Option.some FieldType.int)) 3 1 6 [.ref (ad 6 0 0), .int x, .int k, .int a, .int b, .int c] h (qIM (fun _ h2 => ∃ ad2 : gAd, ad2 6 0 0 = ad 6 0 0 ∧ gRep Z ad2 (fAddB P r k a b c) h2)) (qN) := by
  refine g_enter (lv := [(0, .ref (ad 6 0 0)), (1, .int x), (2, .int k), (3, .int a), (4, .int b), (5, .int c)]) G.2 (by decide +kernel) (Nat.le_of_ble_eq_true rfl) rfl (fun Γ X Nt E RM => ?_)
  have hl3 : gLive P 3 r 0 := ⟨hr, rfl⟩
  have hB : pnB P r ≤ 12 := hW.nB hr
  have hT4 : pnT P r ≤ 4 := hW.nT hr
  have hC : gChrs P r := hW.chr hr
  have hcl : ¬ pI P 4 r 0 2 = 0 → 0 < pnB P r := hW.cl hr
  have hl4 : gLive P 4 r 0 := ⟨hr, rfl⟩
  have hkc : gChr k := by rcases hk with e | e | e | e <;> (first | rw [e.1] | rw [e]) <;> exact ⟨by decide, by decide⟩
  refine g_aload_n X dX6_addBlock_0 rfl ?_
  refine g_iload_n X dX6_addBlock_1 rfl ?_
  refine gp_V X RM lm_X6_48 (c_X6_rideAt G hR hW hx hr) cl_X6 hR (show gLive P 6 0 0 from ⟨rfl, rfl⟩) rfl rfl rfl (Nat.le_of_ble_eq_true rfl) (by decide) (by decide) dX6_addBlock_2 (fun v hz q => ?_) (fun _ _ q => q.elim)
  obtain ⟨w2, rfl, e2, rfl⟩ := q
  rcases e2 with rfl
  · skip
    refine GJ.seq (st' := [.ref (ad 3 r 0)]) rfl ?_
    refine gp_get (j := 3) (v := .ref (ad 4 r 0)) X hR hl3 cl_X3 lk_X6_52 rfl (by decide) rfl rfl dX6_addBlock_5 ?_
    refine g_astore (lv' := [(6, .ref (ad 4 r 0)), (0, .ref (ad 6 0 0)), (1, .int x), (2, .int k), (3, .int a), (4, .int b), (5, .int c)]) X dX6_addBlock_8 (by decide) rfl ?_
    refine g_iload_n X dX6_addBlock_10 rfl ?_
    refine g_iload_n X dX6_addBlock_11 rfl ?_
    refine g_iload X dX6_addBlock_12 rfl ?_
    refine g_iload X dX6_addBlock_14 rfl ?_
    refine gp_S X RM lm_X6_56 (c_X6_isBlock G hR ha hb hc hk) rfl rfl (Nat.le_of_ble_eq_true rfl) (by decide) (by decide) dX6_addBlock_16 (fun v hz q => ?_) (fun _ _ q => q.elim)
    obtain ⟨x16, rfl, e16, rfl⟩ := q
    refine GJ.seq (st' := [.int x16]) rfl ?_
    refine g_if_ne 32 X dX6_addBlock_19 (by decide) (fun c19 => ?_) (fun c19 => ?_)
    · skip
      refine g_aload X dX6_addBlock_32 rfl ?_
      refine gp_geti (j := 2) X hR hl3 cl_X4 lk_X6_62 rfl (by decide) rfl rfl dX6_addBlock_34 (fun x34 e34 => ?_)
      refine g_if_eq 50 X dX6_addBlock_37 (by decide) (fun c37 => ?_) (fun c37 => ?_)
      · skip
        refine g_aload X dX6_addBlock_50 rfl ?_
        refine gp_geti (j := 1) X hR hl3 cl_X4 lk_X6_73 rfl (by decide) rfl rfl dX6_addBlock_52 (fun x52 e52 => ?_)
        refine g_bipush (v := 12) X dX6_addBlock_55 (by decide) ?_
        refine g_icmp_lt 70 X dX6_addBlock_57 (by decide) (fun c57 => ?_) (fun c57 => ?_)
        · skip
          refine g_aload X dX6_addBlock_70 rfl ?_
          refine gw_new [.int 0, .int 0, .int 0, .int 0, .int 0, .int 0] X cl_X0 lc_X6_78 (fun j hj => by rcases j with _ | _ | _ | _ | _ | _ | j <;> first | rfl | omega) (by rw [RM]; exact Nat.le_of_ble_eq_true rfl) (by rw [RM]; exact Nat.le_of_ble_eq_true rfl) dX6_addBlock_72 (fun q h1 gq fq fx => ?_)
          refine g_dup X dX6_addBlock_75 rfl ?_
          refine g_iload_n X dX6_addBlock_76 rfl ?_
          refine g_iload_n X dX6_addBlock_77 rfl ?_
          refine g_iload X dX6_addBlock_78 rfl ?_
          refine g_iload X dX6_addBlock_80 rfl ?_
          refine g_callI X lm_X6_80 (k_X0 G hkc fq) rfl rfl (Nat.le_of_ble_eq_true rfl) (by rw [RM]; exact ⟨Nat.le_of_ble_eq_true rfl, Nat.le_of_ble_eq_true rfl⟩) (by rw [RM]; exact ⟨Nat.le_of_ble_eq_true rfl, Nat.le_of_ble_eq_true rfl⟩) dX6_addBlock_82 (fun h2 hq => ?_)
          obtain ⟨fq, old⟩ := hq
          have hR2 : gRep Z ad P h2 := hR.ext (fun x c hx => old x c ((fx x (gNew.ne gq hx)).trans hx) (gNew.ne gq hx))
          refine gp_V X RM lm_X6_83 (c_X4_append G hR2 hl4 hB12 fq (fun k r i hl => Nat.ne_of_lt (hR.lt gq hl))) cl_X4 hR2 hl4 rfl rfl rfl (Nat.le_of_ble_eq_true rfl) (by decide) (by decide) dX6_addBlock_85 (fun v hz q9 => ?_) (fun _ _ q9 => q9.elim)
          obtain ⟨x85, rfl, hR3⟩ := q9
          refine g_ireturn X E rfl dX6_addBlock_88 (by decide) (by decide) ?_
          exact ⟨_, rfl, _, adU_k (by decide), hR3⟩
        · skip
          exact absurd (by rw [e52]; exact nI_lt (b := 12) hB12 (by decide)) c57
      · skip
        exact absurd (e34.trans hcl0) c37
    · skip
      exact absurd e16 (by rw [c19]; decide)
set_option maxHeartbeats 4000000 in
set_option maxRecDepth 100000 in
theorem c_X6_addTrain {Z : gEnv} {ad : gAd} {P : gP} {h : gH} (G : gG Z) (hR : gRep Z ad P h) (hW : Wf P) {x : Int32} {r : Nat} (hx : x = nI r) (hr : r < pnR P) {y : Int32} (hy : ¬ y < 1 ∧ ¬ 8 < y) : gMet Z yX6_addTrain cX6_addTrain 5 ((Option.some FieldType.int)) 7 3 29 [.ref (ad 6 0 0), .int x, .int y] h (qIM (fun z h2 => z = nI (pnT P r) ∧ ¬ pI P 4 r 0 2 = 0 ∧ (∀ i, i < pnT P r → pI P 5 r i 6 &&& (1 <<< ((0 : Int32) &&& 31)) = 0) ∧ pnT P r < 4 ∧ ∃ ad2 : gAd, ad2 6 0 0 = ad 6 0 0 ∧ ∃ P2, gRep Z ad2 P2 h2 ∧ (P2 = fAddT P r y ∨ P2 = uI (fAddT P r y) 3 r 0 14 1))) (qT h (fun E => E = eREF ∨ E = eSTA)) := by
  refine g_enter (lv := [(0, .ref (ad 6 0 0)), (1, .int x), (2, .int y)]) G.2 (by decide +kernel) (Nat.le_of_ble_eq_true rfl) rfl (fun Γ X Nt E RM => ?_)
  have hl3 : gLive P 3 r 0 := ⟨hr, rfl⟩
  have hB : pnB P r ≤ 12 := hW.nB hr
  have hT4 : pnT P r ≤ 4 := hW.nT hr
  have hC : gChrs P r := hW.chr hr
  have hcl : ¬ pI P 4 r 0 2 = 0 → 0 < pnB P r := hW.cl hr
  refine g_aload_n X dX6_addTrain_0 rfl ?_
  refine g_iload_n X dX6_addTrain_1 rfl ?_
  refine gp_V X RM lm_X6_48 (c_X6_rideAt G hR hW hx hr) cl_X6 hR (show gLive P 6 0 0 from ⟨rfl, rfl⟩) rfl rfl rfl (Nat.le_of_ble_eq_true rfl) (by decide) (by decide) dX6_addTrain_2 (fun v hz q => ?_) (fun _ _ q => q.elim)
  obtain ⟨w2, rfl, e2, rfl⟩ := q
  rcases e2 with rfl
  · skip
    refine GJ.seq (st' := [.ref (ad 3 r 0)]) rfl ?_
    refine g_astore_n (lv' := [(3, .ref (ad 3 r 0)), (0, .ref (ad 6 0 0)), (1, .int x), (2, .int y)]) X dX6_addTrain_5 (by decide) rfl ?_
    refine g_iload_n X dX6_addTrain_6 rfl ?_
    refine g_iconst (v := 1) X dX6_addTrain_7 (by decide) ?_
    refine g_bipush (v := 8) X dX6_addTrain_8 (by decide) ?_
    refine gp_S X RM lm_X6_25 (c_X6_isWithin G hR) rfl rfl (Nat.le_of_ble_eq_true rfl) (by decide) (by decide) dX6_addTrain_10 (fun v hz q => ?_) (fun _ _ q => q.elim)
    obtain ⟨x10, rfl, e10, rfl⟩ := q
    refine GJ.seq (st' := [.int x10]) rfl ?_
    refine g_if_ne 26 X dX6_addTrain_13 (by decide) (fun c13 => ?_) (fun c13 => ?_)
    · skip
      refine g_aload_n X dX6_addTrain_26 rfl ?_
      refine gp_get (j := 3) (v := .ref (ad 4 r 0)) X hR hl3 cl_X3 lk_X6_52 rfl (by decide) rfl rfl dX6_addTrain_27 ?_
      refine gp_geti (j := 2) X hR hl3 cl_X4 lk_X6_62 rfl (by decide) rfl rfl dX6_addTrain_30 (fun x30 e30 => ?_)
      refine g_if_eq 44 X dX6_addTrain_33 (by decide) (fun c33 => ?_) (fun c33 => ?_)
      · skip
        refine gp_thr X RM Nt E th_UnsupportedOperationException ls_X6_103 dX6_addTrain_44 dX6_addTrain_47 dX6_addTrain_48 dX6_addTrain_50 dX6_addTrain_53 ⟨Nat.le_of_ble_eq_true rfl, Nat.le_of_ble_eq_true rfl, Nat.le_of_ble_eq_true rfl, Nat.le_of_ble_eq_true rfl, Nat.le_of_ble_eq_true rfl, Nat.le_of_ble_eq_true rfl⟩ ?_
        exact ⟨Or.inl rfl, rfl⟩
      · skip
        refine g_aload_n X dX6_addTrain_36 rfl ?_
        refine g_iconst (v := 0) X dX6_addTrain_37 (by decide) ?_
        refine gp_V X RM lm_X6_99 (c_X3_isBlockHeld G hR hl3 hT4) cl_X3 hR hl3 rfl rfl rfl (Nat.le_of_ble_eq_true rfl) (by decide) (by decide) dX6_addTrain_38 (fun v hz q => ?_) (fun _ _ q => q.elim)
        obtain ⟨x38, rfl, e38, rfl⟩ := q
        refine GJ.seq (st' := [.int x38]) rfl ?_
        refine g_if_eq 54 X dX6_addTrain_41 (by decide) (fun c41 => ?_) (fun c41 => ?_)
        · skip
          have c33a : ¬ pI P 4 r 0 2 = 0 := by rw [← e30]; exact c33
          have hheld : ∀ i, i < pnT P r → pI P 5 r i 6 &&& (1 <<< ((0 : Int32) &&& 31)) = 0 := by
            rcases e38 with e | e
            · exact absurd e.1 (by rw [c41]; decide)
            · exact e.2
          refine g_aload_n X dX6_addTrain_54 rfl ?_
          refine gp_geti (j := 5) X hR hl3 cl_X3 lk_X6_105 rfl (by decide) rfl rfl dX6_addTrain_55 (fun x55 e55 => ?_)
          refine g_iconst (v := 4) X dX6_addTrain_58 (by decide) ?_
          refine g_icmp_lt 72 X dX6_addTrain_59 (by decide) (fun c59 => ?_) (fun c59 => ?_)
          · skip
            refine g_aload_n X dX6_addTrain_72 rfl ?_
            have hnT : pnT P r < 4 := by
              rcases Nat.lt_or_ge (pnT P r) 4 with h9 | h9
              · exact h9
              · exact absurd c59 (by rw [e55]; exact nI_nlt (b := 4) h9 (by omega))
            refine gw_new [.int 0, .null, .int 0, .int 0, .int 0, .int 0, .int 0, .int 0, .int 0] X cl_X5 lc_X6_110 (fun j hj => by rcases j with _ | _ | _ | _ | _ | _ | _ | _ | _ | j <;> first | rfl | omega) (by rw [RM]; exact Nat.le_of_ble_eq_true rfl) (by rw [RM]; exact Nat.le_of_ble_eq_true rfl) dX6_addTrain_73 (fun q h1 gq fq fx => ?_)
            refine g_dup X dX6_addTrain_76 rfl ?_
            refine g_iload_n X dX6_addTrain_77 rfl ?_
            refine g_callI X lm_X6_112 (k_X5 G fq) rfl rfl (Nat.le_of_ble_eq_true rfl) (by rw [RM]; exact ⟨Nat.le_of_ble_eq_true rfl, Nat.le_of_ble_eq_true rfl⟩) (by rw [RM]; exact ⟨Nat.le_of_ble_eq_true rfl, Nat.le_of_ble_eq_true rfl⟩) dX6_addTrain_78 (fun h2 hq => ?_)
            obtain ⟨q2, gq2, fq2, fq9, old⟩ := hq
            have hR2 : gRep Z ad P h2 := hR.ext (fun x c hx => old x c ((fx x (gNew.ne gq hx)).trans hx) (gNew.ne gq hx))
            have hR1 : gRep Z ad P h1 := hR.ext (fun x c hx => (fx x (gNew.ne gq hx)).trans hx)
            refine gp_V X RM lm_X6_115 (c_X3_putTrain G hR2 hl3 hnT fq9 fq2 (gNew.ne gq2 fq) (fun k r i hl => Nat.ne_of_lt (hR.lt gq hl)) (fun k r i hl => Nat.ne_of_lt (hR1.lt gq2 hl))) cl_X3 hR2 hl3 rfl rfl rfl (Nat.le_of_ble_eq_true rfl) (by decide) (by decide) dX6_addTrain_81 (fun v hz q9 => ?_) (fun _ _ q9 => q9.elim)
            obtain ⟨x81, rfl, e81, hR3⟩ := q9
            obtain ⟨A, hA⟩ : ∃ A, A = adU (adU ad 5 r (pnT P r) q) 12 r (pnT P r) q2 := ⟨_, rfl⟩
            rw [← hA] at hR3
            have e3 : A 3 r 0 = ad 3 r 0 := by rw [hA, adU_k (by decide), adU_k (by decide)]
            have e6 : A 6 0 0 = ad 6 0 0 := by rw [hA, adU_k (by decide), adU_k (by decide)]
            have hl3b : gLive (fAddT P r y) 3 r 0 := hl3
            refine GJ.seq (st' := [.int x81]) rfl ?_
            refine g_istore (lv' := [(4, .int x81), (3, .ref (ad 3 r 0)), (0, .ref (ad 6 0 0)), (1, .int x), (2, .int y)]) X dX6_addTrain_84 (by decide) rfl ?_
            refine g_aload_n X dX6_addTrain_86 rfl ?_
            refine GJ.seq (st' := [.ref (A 3 r 0)]) (by rw [e3]) ?_
            refine gp_V X RM lm_X6_119 (c_X3_compareProcessors G hR3 hl3b (show pnB P r ≤ 12 from hB) (fun b hb => hC b hb)) cl_X3 hR3 hl3b rfl rfl rfl (Nat.le_of_ble_eq_true rfl) (by decide) (by decide) dX6_addTrain_87 (fun v hz q9 => ?_) (fun _ _ q9 => q9.elim)
            obtain ⟨rfl, P87, hR4, e87⟩ := q9
            refine GJ.seq (st' := []) rfl ?_
            refine g_iload X dX6_addTrain_90 rfl ?_
            refine g_ireturn X E rfl dX6_addTrain_92 (by decide) (by decide) ?_
            exact ⟨_, rfl, e81, c33a, hheld, hnT, A, e6, P87, hR4, e87⟩
          · skip
            refine gp_thr X RM Nt E th_IllegalStateException ls_X6_108 dX6_addTrain_62 dX6_addTrain_65 dX6_addTrain_66 dX6_addTrain_68 dX6_addTrain_71 ⟨Nat.le_of_ble_eq_true rfl, Nat.le_of_ble_eq_true rfl, Nat.le_of_ble_eq_true rfl, Nat.le_of_ble_eq_true rfl, Nat.le_of_ble_eq_true rfl, Nat.le_of_ble_eq_true rfl⟩ ?_
            exact ⟨Or.inr rfl, rfl⟩
        · skip
          refine gp_thr X RM Nt E th_UnsupportedOperationException ls_X6_103 dX6_addTrain_44 dX6_addTrain_47 dX6_addTrain_48 dX6_addTrain_50 dX6_addTrain_53 ⟨Nat.le_of_ble_eq_true rfl, Nat.le_of_ble_eq_true rfl, Nat.le_of_ble_eq_true rfl, Nat.le_of_ble_eq_true rfl, Nat.le_of_ble_eq_true rfl, Nat.le_of_ble_eq_true rfl⟩ ?_
          exact ⟨Or.inl rfl, rfl⟩
    · skip
      exact absurd (e10.trans (if_pos hy)) (by rw [c13]; decide)
set_option maxHeartbeats 4000000 in
set_option maxRecDepth 100000 in
theorem c_X6_enter {Z : gEnv} {ad : gAd} {P : gP} {h : gH} (G : gG Z) (hR : gRep Z ad P h) (h60 : pnG P < 60) (hRD : ∀ r i j g, gLive P 12 r i → pRD P r i j = some g → g < pnG P) (hPL : ∀ r i j g, gLive P 13 r i → pPL P r i j = some g → g < pnG P) {a b c : Int32} (ha : ¬ a < 0 ∧ ¬ 999 < a) (hb : ¬ b < 50 ∧ ¬ 250 < b) (hc : ¬ c < 0 ∧ ¬ 9 < c) : gMet Z yX6_enter cX6_enter 4 ((Option.some FieldType.int)) 2 1 11 [.ref (ad 6 0 0), .int a, .int b, .int c] h (qIM (fun _ h2 => ∃ ad2 : gAd, ad2 6 0 0 = ad 6 0 0 ∧ gRep Z ad2 (fEnter P a b c) h2)) (qN) := by
  refine g_enter (lv := [(0, .ref (ad 6 0 0)), (1, .int a), (2, .int b), (3, .int c)]) G.2 (by decide +kernel) (Nat.le_of_ble_eq_true rfl) rfl (fun Γ X Nt E RM => ?_)
  refine g_iload_n X dX6_enter_0 rfl ?_
  refine g_iconst (v := 0) X dX6_enter_1 (by decide) ?_
  refine g_sipush (v := 999) X dX6_enter_2 (by decide) ?_
  refine gp_S X RM lm_X6_25 (c_X6_isWithin G hR) rfl rfl (Nat.le_of_ble_eq_true rfl) (by decide) (by decide) dX6_enter_5 (fun v hz q => ?_) (fun _ _ q => q.elim)
  obtain ⟨x5, rfl, e5, rfl⟩ := q
  refine GJ.seq (st' := [.int x5]) rfl ?_
  refine g_if_eq 33 X dX6_enter_8 (by decide) (fun c8 => ?_) (fun c8 => ?_)
  · skip
    exact absurd (e5.trans (if_pos ha)) (by rw [c8]; decide)
  · skip
    refine g_iload_n X dX6_enter_11 rfl ?_
    refine g_bipush (v := 50) X dX6_enter_12 (by decide) ?_
    refine g_sipush (v := 250) X dX6_enter_14 (by decide) ?_
    refine gp_S X RM lm_X6_25 (c_X6_isWithin G hR) rfl rfl (Nat.le_of_ble_eq_true rfl) (by decide) (by decide) dX6_enter_17 (fun v hz q => ?_) (fun _ _ q => q.elim)
    obtain ⟨x17, rfl, e17, rfl⟩ := q
    refine GJ.seq (st' := [.int x17]) rfl ?_
    refine g_if_eq 33 X dX6_enter_20 (by decide) (fun c20 => ?_) (fun c20 => ?_)
    · skip
      exact absurd (e17.trans (if_pos hb)) (by rw [c20]; decide)
    · skip
      refine g_iload_n X dX6_enter_23 rfl ?_
      refine g_iconst (v := 0) X dX6_enter_24 (by decide) ?_
      refine g_bipush (v := 9) X dX6_enter_25 (by decide) ?_
      refine gp_S X RM lm_X6_25 (c_X6_isWithin G hR) rfl rfl (Nat.le_of_ble_eq_true rfl) (by decide) (by decide) dX6_enter_27 (fun v hz q => ?_) (fun _ _ q => q.elim)
      obtain ⟨x27, rfl, e27, rfl⟩ := q
      refine GJ.seq (st' := [.int x27]) rfl ?_
      refine g_if_ne 44 X dX6_enter_30 (by decide) (fun c30 => ?_) (fun c30 => ?_)
      · skip
        refine g_aload_n X dX6_enter_44 rfl ?_
        refine gp_geti (j := 5) X hR (⟨rfl, rfl⟩) cl_X6 lk_X6_262 rfl (by decide) rfl rfl dX6_enter_45 (fun x45 e45 => ?_)
        refine g_if_lt 63 X dX6_enter_48 (by decide) (fun c48 => ?_) (fun c48 => ?_)
        · skip
          exact absurd c48 (by rw [e45]; exact nI_pos (by omega))
        · skip
          refine g_aload_n X dX6_enter_51 rfl ?_
          refine gp_geti (j := 5) X hR (⟨rfl, rfl⟩) cl_X6 lk_X6_262 rfl (by decide) rfl rfl dX6_enter_52 (fun x52 e52 => ?_)
          refine g_aload_n X dX6_enter_55 rfl ?_
          refine gp_get (j := 4) (v := .ref (ad 9 0 0)) X hR (⟨rfl, rfl⟩) cl_X6 lk_X6_21 rfl (by decide) rfl rfl dX6_enter_56 ?_
          refine gp_alen (v := 60) X hR (⟨rfl, rfl⟩) G.t2 rfl rfl dX6_enter_59 ?_
          refine g_icmp_lt 74 X dX6_enter_60 (by decide) (fun c60 => ?_) (fun c60 => ?_)
          · skip
            refine g_aload_n X dX6_enter_74 rfl ?_
            refine gp_get (j := 4) (v := .ref (ad 9 0 0)) X hR (⟨rfl, rfl⟩) cl_X6 lk_X6_21 rfl (by decide) rfl rfl dX6_enter_75 ?_
            refine g_aload_n X dX6_enter_78 rfl ?_
            refine gp_geti (j := 5) X hR (⟨rfl, rfl⟩) cl_X6 lk_X6_262 rfl (by decide) rfl rfl dX6_enter_79 (fun x79 e79 => ?_)
            refine gw_new [.int 0, .int 0, .int 0, .int 0, .int 0, .int 0, .int 0, .int 0, .int 0, .null, .int 0] X cl_X1 lc_X6_19 (fun j hj => by rcases j with _ | _ | _ | _ | _ | _ | _ | _ | _ | _ | _ | j <;> first | rfl | omega) (by rw [RM]; exact Nat.le_of_ble_eq_true rfl) (by rw [RM]; exact Nat.le_of_ble_eq_true rfl) dX6_enter_82 (fun q h1 gq fq fx => ?_)
            refine g_dup X dX6_enter_85 rfl ?_
            refine g_iload_n X dX6_enter_86 rfl ?_
            refine g_iload_n X dX6_enter_87 rfl ?_
            refine g_iload_n X dX6_enter_88 rfl ?_
            refine g_callI X lm_X6_267 (k_X1 G fq) rfl rfl (Nat.le_of_ble_eq_true rfl) (by rw [RM]; exact ⟨Nat.le_of_ble_eq_true rfl, Nat.le_of_ble_eq_true rfl⟩) (by rw [RM]; exact ⟨Nat.le_of_ble_eq_true rfl, Nat.le_of_ble_eq_true rfl⟩) dX6_enter_89 (fun h2 hq => ?_)
            obtain ⟨fq, old⟩ := hq
            have hR2 : gRep Z ad P h2 := hR.ext (fun x c hx => old x c ((fx x (gNew.ne gq hx)).trans hx) (gNew.ne gq hx))
            have hna : ∀ k r i, gLive P k r i → ad k r i ≠ q := fun k r i hl => Nat.ne_of_lt (hR.lt gq hl)
            have l9 : gLive P 9 0 0 := ⟨rfl, rfl⟩
            have l6 : gLive P 6 0 0 := ⟨rfl, rfl⟩
            have f9 := hR2.1 9 0 0 l9
            refine gw_aast (j := pnG P) X cl_X1 G.t2 f9 fq e79 h60 (by decide) dX6_enter_92 (fun h3 f9 fx3 => ?_)
            have n6 : ad 6 0 0 ≠ ad 9 0 0 := hR2.ne l6 l9 (by simp)
            have f6 := (fx3 _ n6).trans (hR2.1 6 0 0 l6)
            refine g_aload_n X dX6_enter_93 rfl ?_
            refine g_dup X dX6_enter_94 rfl ?_
            refine g_get (j := 10) (v := .long (pJ P 10)) X cl_X6 lk_X6_268 rfl (by decide) f6 rfl dX6_enter_95 ?_
            refine g_iload_n X dX6_enter_98 rfl ?_
            refine g_i2l X dX6_enter_99 (fun x99 e99 => ?_)
            refine g_ladd X dX6_enter_100 (fun x100 e100 => ?_)
            refine gw_put (j := 10) (fs' := [.ref (ad 7 0 0), .int (nI (pnR P)), .ref (ad 8 0 0), .int (pI P 6 0 0 3), .ref (ad 9 0 0), .int (nI (pnG P)), .int (pI P 6 0 0 6), .int (pI P 6 0 0 7), .int (pI P 6 0 0 8), .int (pI P 6 0 0 9), .long x100, .long (pJ P 11), .long (pJ P 12)]) X cl_X6 lk_X6_268 rfl (by decide) f6 rfl rfl rfl (Nat.le_of_ble_eq_true rfl) rfl dX6_enter_101 (fun h4 f6 fx4 => ?_)
            refine g_aload_n X dX6_enter_104 rfl ?_
            refine g_dup X dX6_enter_105 rfl ?_
            refine gw_geti (j := 5) X cl_X6 lk_X6_262 rfl (by decide) f6 rfl dX6_enter_106 (fun x106 e106 => ?_)
            refine g_iconst (v := 1) X dX6_enter_109 (by decide) ?_
            refine g_iadd X dX6_enter_110 (fun x110 e110 => ?_)
            refine gw_put (j := 5) (fs' := [.ref (ad 7 0 0), .int (nI (pnR P)), .ref (ad 8 0 0), .int (pI P 6 0 0 3), .ref (ad 9 0 0), .int x110, .int (pI P 6 0 0 6), .int (pI P 6 0 0 7), .int (pI P 6 0 0 8), .int (pI P 6 0 0 9), .long x100, .long (pJ P 11), .long (pJ P 12)]) X cl_X6 lk_X6_262 rfl (by decide) f6 rfl rfl rfl (Nat.le_of_ble_eq_true rfl) rfl dX6_enter_111 (fun h5 f6 fx5 => ?_)
            refine g_aload_n X dX6_enter_114 rfl ?_
            refine gw_geti (j := 5) X cl_X6 lk_X6_262 rfl (by decide) f6 rfl dX6_enter_115 (fun x115 e115 => ?_)
            refine g_iconst (v := 1) X dX6_enter_118 (by decide) ?_
            refine g_isub X dX6_enter_119 (fun x119 e119 => ?_)
            refine g_ireturn X E rfl dX6_enter_120 (by decide) (by decide) ?_
            have hx110 : x110 = nI (pnG P + 1) := by rw [e110, e106]; exact nI_1 _
            rw [hx110, e100, e99] at f6
            have na9 : q ≠ ad 9 0 0 := (hna 9 0 0 l9).symm
            have na6 : q ≠ ad 6 0 0 := (hna 6 0 0 l6).symm
            exact ⟨_, rfl, _, adU_k (by decide), grow_guest hR2 hna hRD hPL ((fx5 _ na6).trans ((fx4 _ na6).trans ((fx3 _ na9).trans fq))) ((fx5 _ n6.symm).trans ((fx4 _ n6.symm).trans f9)) f6 (fun x m1 m2 c hc => (fx5 x m2).trans ((fx4 x m2).trans ((fx3 x m1).trans hc)))⟩
          · skip
            exact absurd (by rw [e52]; exact nI_lt (b := 60) h60 (by decide)) c60
      · skip
        exact absurd (e27.trans (if_pos hc)) (by rw [c30]; decide)
set_option maxHeartbeats 4000000 in
set_option maxRecDepth 100000 in
theorem c_X6_addRide {Z : gEnv} {ad : gAd} {P : gP} {h : gH} (G : gG Z) (hR : gRep Z ad P h) (h4 : pnR P < 4) (hGL : ∀ g q, g < pnG P → pGL P g = some q → q.1 < pnR P) {a b c : Int32} (ha : ¬ a < 0 ∧ ¬ 250 < a) (hb : ¬ b < 0 ∧ ¬ 40 < b) (hc : ¬ c < 0 ∧ ¬ 99 < c) : gMet Z yX6_addRide cX6_addRide 4 ((Option.some FieldType.int)) 3 10 224 [.ref (ad 6 0 0), .int a, .int b, .int c] h (qIM (fun _ h2 => ∃ ad2 : gAd, ad2 6 0 0 = ad 6 0 0 ∧ gRep Z ad2 (fAddR P a b c) h2)) (qN) := by
  refine g_enter (lv := [(0, .ref (ad 6 0 0)), (1, .int a), (2, .int b), (3, .int c)]) G.2 (by decide +kernel) (Nat.le_of_ble_eq_true rfl) rfl (fun Γ X Nt E RM => ?_)
  refine g_iload_n X dX6_addRide_0 rfl ?_
  refine g_iconst (v := 0) X dX6_addRide_1 (by decide) ?_
  refine g_sipush (v := 250) X dX6_addRide_2 (by decide) ?_
  refine gp_S X RM lm_X6_25 (c_X6_isWithin G hR) rfl rfl (Nat.le_of_ble_eq_true rfl) (by decide) (by decide) dX6_addRide_5 (fun v hz q => ?_) (fun _ _ q => q.elim)
  obtain ⟨x5, rfl, e5, rfl⟩ := q
  refine GJ.seq (st' := [.int x5]) rfl ?_
  refine g_if_eq 31 X dX6_addRide_8 (by decide) (fun c8 => ?_) (fun c8 => ?_)
  · skip
    exact absurd (e5.trans (if_pos ha)) (by rw [c8]; decide)
  · skip
    refine g_iload_n X dX6_addRide_11 rfl ?_
    refine g_iconst (v := 0) X dX6_addRide_12 (by decide) ?_
    refine g_bipush (v := 40) X dX6_addRide_13 (by decide) ?_
    refine gp_S X RM lm_X6_25 (c_X6_isWithin G hR) rfl rfl (Nat.le_of_ble_eq_true rfl) (by decide) (by decide) dX6_addRide_15 (fun v hz q => ?_) (fun _ _ q => q.elim)
    obtain ⟨x15, rfl, e15, rfl⟩ := q
    refine GJ.seq (st' := [.int x15]) rfl ?_
    refine g_if_eq 31 X dX6_addRide_18 (by decide) (fun c18 => ?_) (fun c18 => ?_)
    · skip
      exact absurd (e15.trans (if_pos hb)) (by rw [c18]; decide)
    · skip
      refine g_iload_n X dX6_addRide_21 rfl ?_
      refine g_iconst (v := 0) X dX6_addRide_22 (by decide) ?_
      refine g_bipush (v := 99) X dX6_addRide_23 (by decide) ?_
      refine gp_S X RM lm_X6_25 (c_X6_isWithin G hR) rfl rfl (Nat.le_of_ble_eq_true rfl) (by decide) (by decide) dX6_addRide_25 (fun v hz q => ?_) (fun _ _ q => q.elim)
      obtain ⟨x25, rfl, e25, rfl⟩ := q
      refine GJ.seq (st' := [.int x25]) rfl ?_
      refine g_if_ne 41 X dX6_addRide_28 (by decide) (fun c28 => ?_) (fun c28 => ?_)
      · skip
        refine g_aload_n X dX6_addRide_41 rfl ?_
        refine gp_geti (j := 1) X hR (⟨rfl, rfl⟩) cl_X6 lk_X6_36 rfl (by decide) rfl rfl dX6_addRide_42 (fun x42 e42 => ?_)
        refine g_if_lt 60 X dX6_addRide_45 (by decide) (fun c45 => ?_) (fun c45 => ?_)
        · skip
          exact absurd c45 (by rw [e42]; exact nI_pos (by omega))
        · skip
          refine g_aload_n X dX6_addRide_48 rfl ?_
          refine gp_geti (j := 1) X hR (⟨rfl, rfl⟩) cl_X6 lk_X6_36 rfl (by decide) rfl rfl dX6_addRide_49 (fun x49 e49 => ?_)
          refine g_aload_n X dX6_addRide_52 rfl ?_
          refine gp_get (j := 0) (v := .ref (ad 7 0 0)) X hR (⟨rfl, rfl⟩) cl_X6 lk_X6_11 rfl (by decide) rfl rfl dX6_addRide_53 ?_
          refine gp_alen (v := 4) X hR (⟨rfl, rfl⟩) G.t0 rfl rfl dX6_addRide_56 ?_
          refine g_icmp_lt 70 X dX6_addRide_57 (by decide) (fun c57 => ?_) (fun c57 => ?_)
          · skip
            refine g_aload_n X dX6_addRide_70 rfl ?_
            refine gp_get (j := 0) (v := .ref (ad 7 0 0)) X hR (⟨rfl, rfl⟩) cl_X6 lk_X6_11 rfl (by decide) rfl rfl dX6_addRide_71 ?_
            refine g_aload_n X dX6_addRide_74 rfl ?_
            refine gp_geti (j := 1) X hR (⟨rfl, rfl⟩) cl_X6 lk_X6_36 rfl (by decide) rfl rfl dX6_addRide_75 (fun x75 e75 => ?_)
            refine gw_new [.int 0, .int 0, .int 0, .null, .null, .int 0, .null, .null, .null, .int 0, .int 0, .int 0, .int 0, .int 0, .int 0] X cl_X3 lc_X6_9 (fun j hj => by rcases j with _ | _ | _ | _ | _ | _ | _ | _ | _ | _ | _ | _ | _ | _ | _ | j <;> first | rfl | omega) (by rw [RM]; exact Nat.le_of_ble_eq_true rfl) (by rw [RM]; exact Nat.le_of_ble_eq_true rfl) dX6_addRide_78 (fun q h1 gq fq fx => ?_)
            refine g_dup X dX6_addRide_81 rfl ?_
            refine g_iload_n X dX6_addRide_82 rfl ?_
            refine g_iload_n X dX6_addRide_83 rfl ?_
            refine g_iload_n X dX6_addRide_84 rfl ?_
            refine g_callI X lm_X6_45 (k_X3 G fq) rfl rfl (Nat.le_of_ble_eq_true rfl) (by rw [RM]; exact ⟨Nat.le_of_ble_eq_true rfl, Nat.le_of_ble_eq_true rfl⟩) (by rw [RM]; exact ⟨Nat.le_of_ble_eq_true rfl, Nat.le_of_ble_eq_true rfl⟩) dX6_addRide_85 (fun h2 hq => ?_)
            obtain ⟨q5, q9, q17, q24, q28, q35, q39, q46, q50, hq, old⟩ := hq
            have hR2 : gRep Z ad P h2 := hR.ext (fun x c hx => old x c ((fx x (gNew.ne gq hx)).trans hx) (gNew.ne gq hx))
            have hna : ∀ k r i, gLive P k r i → ad k r i < q := fun k r i hl => hR.lt gq hl
            have l7 : gLive P 7 0 0 := ⟨rfl, rfl⟩
            have l6 : gLive P 6 0 0 := ⟨rfl, rfl⟩
            have f7 := hR2.1 7 0 0 l7
            refine gw_aast (j := pnR P) X cl_X3 G.t0 f7 hq.2.1 e75 h4 (by decide) dX6_addRide_88 (fun h3 f7 fx3 => ?_)
            have n6 : ad 6 0 0 ≠ ad 7 0 0 := hR2.ne l6 l7 (by simp)
            have f6 := (fx3 _ n6).trans (hR2.1 6 0 0 l6)
            refine g_aload_n X dX6_addRide_89 rfl ?_
            refine g_dup X dX6_addRide_90 rfl ?_
            refine gw_geti (j := 1) X cl_X6 lk_X6_36 rfl (by decide) f6 rfl dX6_addRide_91 (fun x91 e91 => ?_)
            refine g_iconst (v := 1) X dX6_addRide_94 (by decide) ?_
            refine g_iadd X dX6_addRide_95 (fun x95 e95 => ?_)
            refine gw_put (j := 1) (fs' := [.ref (ad 7 0 0), .int x95, .ref (ad 8 0 0), .int (pI P 6 0 0 3), .ref (ad 9 0 0), .int (nI (pnG P)), .int (pI P 6 0 0 6), .int (pI P 6 0 0 7), .int (pI P 6 0 0 8), .int (pI P 6 0 0 9), .long (pJ P 10), .long (pJ P 11), .long (pJ P 12)]) X cl_X6 lk_X6_36 rfl (by decide) f6 rfl rfl rfl (Nat.le_of_ble_eq_true rfl) rfl dX6_addRide_96 (fun h5 f6 fx5 => ?_)
            refine g_aload_n X dX6_addRide_99 rfl ?_
            refine gw_geti (j := 1) X cl_X6 lk_X6_36 rfl (by decide) f6 rfl dX6_addRide_100 (fun x100 e100 => ?_)
            refine g_iconst (v := 1) X dX6_addRide_103 (by decide) ?_
            refine g_isub X dX6_addRide_104 (fun x104 e104 => ?_)
            refine g_ireturn X E rfl dX6_addRide_105 (by decide) (by decide) ?_
            have hx95 : x95 = nI (pnR P + 1) := by rw [e95, e91]; exact nI_1 _
            rw [hx95] at f6
            obtain ⟨⟨o1, o2, o3, o4, o5, o6, o7, o8, o9⟩, fa, g5, g9, g17, g24, g28, g35, g39, g46, g50⟩ := hq
            have b7 := hna 7 0 0 l7
            have b6 := hna 6 0 0 l6
            have mv : ∀ x c, h2 x = some c → q ≤ x → h5 x = some c := fun x c hc hx => (fx5 x (by omega)).trans ((fx3 x (by omega)).trans hc)
            exact ⟨_, rfl, grow_ride hR2 hna hGL ⟨⟨o1, o2, o3, o4, o5, o6, o7, o8, o9⟩, mv _ _ fa (by omega), mv _ _ g5 (by omega), mv _ _ g9 (by omega), mv _ _ g17 (by omega), mv _ _ g24 (by omega), mv _ _ g28 (by omega), mv _ _ g35 (by omega), mv _ _ g39 (by omega), mv _ _ g46 (by omega), mv _ _ g50 (by omega)⟩ ((fx5 _ n6.symm).trans f7) f6 (fun x m1 m2 c hc => (fx5 x m2).trans ((fx3 x m1).trans hc))⟩
          · skip
            exact absurd (by rw [e49]; exact nI_lt (b := 4) h4 (by decide)) c57
      · skip
        exact absurd (e25.trans (if_pos hc)) (by rw [c28]; decide)
end GGROW
