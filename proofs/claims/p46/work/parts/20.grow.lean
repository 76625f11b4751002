/-! a state grows: a block, a train, a ride, a guest -/
section GGROW
variable {Z : gEnv} {h h' : gH} {ad ad' : gAd} {P P' : gP}
theorem gRep.grow2 (hR : gRep Z ad P h) (N C : Nat → Nat → Nat → Prop)
    (h1 : ∀ k r i, gLive P' k r i → ¬ N k r i → gLive P k r i ∧ ad' k r i = ad k r i)
    (hN : ∀ k r i, gLive P' k r i → N k r i → h' (ad' k r i) = some (gCell Z.2.2.2.1 ad' P' k r i))
    (hC : ∀ k r i, gLive P k r i → C k r i → h' (ad k r i) = some (gCell Z.2.2.2.1 ad' P' k r i))
    (ho : ∀ k r i, gLive P k r i → ¬ C k r i → h' (ad k r i) = some (gCell Z.2.2.2.1 ad P k r i))
    (hs : ∀ k r i, gLive P k r i → ¬ N k r i → ¬ C k r i → gCell Z.2.2.2.1 ad' P' k r i = gCell Z.2.2.2.1 ad P k r i)
    (h3 : ∀ k r i k' r' i', gLive P k r i → gLive P' k' r' i' → N k' r' i' → ad k r i ≠ ad' k' r' i')
    (h4 : ∀ k r i k' r' i', N k r i → N k' r' i' → ad' k r i = ad' k' r' i' → k = k' ∧ r = r' ∧ i = i') : gRep Z ad' P' h' := by
  refine hR.grow N h1 (fun k r i hl => ?_) h3 h4
  by_cases n1 : N k r i
  · exact hN k r i hl n1
  · obtain ⟨q1, q2⟩ := h1 k r i hl n1
    rw [q2]
    by_cases c1 : C k r i
    · exact hC k r i q1 c1
    · rw [hs k r i q1 n1 c1]
      exact ho k r i q1 c1
theorem gRep.ne (hR : gRep Z ad P h) {k r i k' r' i' : Nat} (l1 : gLive P k r i) (l2 : gLive P k' r' i') (hn : ¬ (k = k' ∧ r = r' ∧ i = i')) : ad k r i ≠ ad k' r' i' := fun e => hn (hR.2 _ _ _ _ _ _ l1 l2 e)
theorem grow_block {r a : Nat} {v0 v1 v2 v3 : Int32} (hR : gRep Z ad P h) (hr : r < pnR P) (hna : ∀ k r i, gLive P k r i → ad k r i ≠ a) (ha : h' a = some (.inr (2, [.int v0, .int v1, .int v2, .int v3, .int 116, .int 116])))
    (h10 : h' (ad 10 r 0) = some (.inl (Z.2.2.2.1 3, 12, gRow (va_up (fun j => if j < pnB P r then some (ad 0 r j) else none) (pnB P r) (some a)))))
    (h4 : h' (ad 4 r 0) = some (.inr (6, [.ref (ad 10 r 0), .int (nI (pnB P r + 1)), .int (pI P 4 r 0 2)])))
    (ho : ∀ x, x ≠ ad 10 r 0 → x ≠ ad 4 r 0 → ∀ c, h x = some c → h' x = some c) : gRep Z (adU ad 0 r (pnB P r) a) (fAddB P r v0 v1 v2 v3) h' := by
  have l10 : gLive P 10 r 0 := ⟨hr, rfl⟩
  have l4 : gLive P 4 r 0 := ⟨hr, rfl⟩
  have eB : ∀ x, pnB (fAddB P r v0 v1 v2 v3) x = if x = r then pnB P r + 1 else pnB P x := fun _ => rfl
  have eI : ∀ k r' i' s, pI (fAddB P r v0 v1 v2 v3) k r' i' s = if k = 0 ∧ r' = r ∧ i' = pnB P r then [v0, v1, v2, v3, 116, 116].getD s 0 else pI P k r' i' s := fun _ _ _ _ => rfl
  refine hR.grow2 (fun k r' i => k = 0 ∧ r' = r ∧ i = pnB P r) (fun k r' i => (k = 10 ∨ k = 4) ∧ r' = r) (fun k r' i hl hn => ⟨?_, adU_n hn⟩) (fun k r' i hl hn => ?_) (fun k r' i hl hc => ?_) (fun k r' i hl hc => ?_) (fun k r' i hl hn hc => ?_) (fun k r' i k2 r2 i2 hl hl2 hn => ?_) (fun k r' i k2 r2 i2 hn hn2 _ => ?_)
  · rcases k with _ | k
    · have hl1 : r' < pnR P ∧ i < pnB (fAddB P r v0 v1 v2 v3) r' := hl
      rw [eB] at hl1
      refine ⟨hl1.1, ?_⟩
      by_cases e : r' = r
      · subst e
        rw [if_pos rfl] at hl1
        have : i ≠ pnB P r' := fun e => hn ⟨rfl, rfl, e⟩
        show i < pnB P r'
        omega
      · rw [if_neg e] at hl1
        exact hl1.2
    · rcases k with _ | _ | _ | _ | _ | _ | _ | _ | _ | _ | _ | _ | _ | _ | k <;> exact hl
  · obtain ⟨rfl, rfl, rfl⟩ := hn
    rw [adU_s, ha]
    simp [gCell, eI]
  · obtain ⟨rfl | rfl, rfl⟩ := hc
    · obtain rfl : i = 0 := hl.2
      rw [h10]
      simp only [gCell, eB, if_pos]
      congr 5
      funext j
      simp only [va_up, adU]
      by_cases e : j = pnB P r'
      · subst e; simp
      · have e3 : (j < pnB P r' + 1) = (j < pnB P r') := by apply propext; omega
        simp [e, e3]
    · obtain rfl : i = 0 := hl.2
      rw [h4]
      simp [gCell, eB, eI, adU]
  · refine ho _ (hR.ne hl l10 (fun e => hc ⟨Or.inl e.1, e.2.1⟩)) (hR.ne hl l4 (fun e => hc ⟨Or.inr e.1, e.2.1⟩)) _ (hR.1 _ _ _ hl)
  · rcases k with _ | _ | _ | _ | _ | _ | _ | _ | _ | _ | _ | _ | _ | _ | _ | k
    all_goals first
      | rfl
      | (have hn2 : ¬ (r' = r ∧ i = pnB P r) := fun e => hn ⟨rfl, e.1, e.2⟩
         simp [gCell, eI, hn2]; done)
      | (have hc2 : r' ≠ r := fun e => hc ⟨by simp, e⟩
         simp [gCell, eI, eB, adU, hc2]; done)
      | (simp [gCell, eI, adU]; done)
  · obtain ⟨rfl, rfl, rfl⟩ := hn
    rw [adU_s]
    exact hna _ _ _ hl
  · obtain ⟨rfl, rfl, rfl⟩ := hn
    obtain ⟨rfl, rfl, rfl⟩ := hn2
    exact ⟨rfl, rfl, rfl⟩
theorem grow_train {r a q : Nat} {v : Int32} (hR : gRep Z ad P h) (hr : r < pnR P) (hna : ∀ k r i, gLive P k r i → ad k r i ≠ a) (hnq : ∀ k r i, gLive P k r i → ad k r i ≠ q) (haq : a ≠ q) (ha : h' a = some (.inr (7, [.int v, .ref q, .int 0, .int 0, .int 0, .int 115, .int 1, .int 0, .int 0]))) (hq : h' q = some (.inl (Z.2.2.2.1 2, 8, gRow (fun _ => none))))
    (h11 : h' (ad 11 r 0) = some (.inl (Z.2.2.2.1 4, 4, gRow (va_up (fun j => if j < pnT P r then some (ad 5 r j) else none) (pnT P r) (some a)))))
    (h3 : h' (ad 3 r 0) = some (.inr (5, [.int (pI P 3 r 0 0), .int (pI P 3 r 0 1), .int (pI P 3 r 0 2), .ref (ad 4 r 0), .ref (ad 11 r 0), .int (nI (pnT P r + 1)), .ref (ad 2 r 0), .ref (ad 2 r 1), .ref (ad 2 r 2), .int (pI P 3 r 0 9), .int (pI P 3 r 0 10), .int (pI P 3 r 0 11), .int (pI P 3 r 0 12), .int (pI P 3 r 0 13), .int (pI P 3 r 0 14)])))
    (ho : ∀ x, x ≠ ad 11 r 0 → x ≠ ad 3 r 0 → ∀ c, h x = some c → h' x = some c) : gRep Z (adU (adU ad 5 r (pnT P r) a) 12 r (pnT P r) q) (fAddT P r v) h' := by
  have l11 : gLive P 11 r 0 := ⟨hr, rfl⟩
  have l3 : gLive P 3 r 0 := ⟨hr, rfl⟩
  have eT : ∀ x, pnT (fAddT P r v) x = if x = r then pnT P r + 1 else pnT P x := fun _ => rfl
  have eI : ∀ k r' i' s, pI (fAddT P r v) k r' i' s = if k = 5 ∧ r' = r ∧ i' = pnT P r then [v, 0, 0, 0, 0, 115, 1, 0, 0].getD s 0 else pI P k r' i' s := fun _ _ _ _ => rfl
  have eD : ∀ r' i' j, pRD (fAddT P r v) r' i' j = if r' = r ∧ i' = pnT P r then none else pRD P r' i' j := fun _ _ _ => rfl
  refine hR.grow2 (fun k r' i => (k = 5 ∨ k = 12) ∧ r' = r ∧ i = pnT P r) (fun k r' i => (k = 11 ∨ k = 3) ∧ r' = r) (fun k r' i hl hn => ⟨?_, ?_⟩) (fun k r' i hl hn => ?_) (fun k r' i hl hc => ?_) (fun k r' i hl hc => ?_) (fun k r' i hl hn hc => ?_) (fun k r' i k2 r2 i2 hl hl2 hn => ?_) (fun k r' i k2 r2 i2 hn hn2 e => ?_)
  · have aux : (k = 5 ∨ k = 12) → (r' < pnR P ∧ i < pnT (fAddT P r v) r') → r' < pnR P ∧ i < pnT P r' := by
      intro hk hl1
      rw [eT] at hl1
      refine ⟨hl1.1, ?_⟩
      by_cases e : r' = r
      · subst e
        rw [if_pos rfl] at hl1
        have : i ≠ pnT P r' := fun e => hn ⟨hk, rfl, e⟩
        omega
      · rw [if_neg e] at hl1
        exact hl1.2
    rcases k with _ | _ | _ | _ | _ | _ | _ | _ | _ | _ | _ | _ | _ | _ | _ | k
    all_goals first
      | exact hl
      | exact aux (by simp) hl
  · rw [adU_n (fun e => hn ⟨Or.inr e.1, e.2⟩), adU_n (fun e => hn ⟨Or.inl e.1, e.2⟩)]
  · obtain ⟨rfl | rfl, rfl, rfl⟩ := hn
    · rw [adU_k (by decide), adU_s, ha]
      simp [gCell, eI, adU]
    · rw [adU_s, hq]
      simp [gCell, eD]
  · obtain ⟨rfl | rfl, rfl⟩ := hc
    · obtain rfl : i = 0 := hl.2
      rw [h11]
      simp only [gCell, eT, if_pos]
      congr 5
      funext j
      simp only [va_up, adU]
      by_cases e : j = pnT P r'
      · subst e; simp
      · have e3 : (j < pnT P r' + 1) = (j < pnT P r') := by apply propext; omega
        simp [e, e3]
    · obtain rfl : i = 0 := hl.2
      rw [h3]
      simp [gCell, eT, eI, adU]
  · refine ho _ (hR.ne hl l11 (fun e => hc ⟨Or.inl e.1, e.2.1⟩)) (hR.ne hl l3 (fun e => hc ⟨Or.inr e.1, e.2.1⟩)) _ (hR.1 _ _ _ hl)
  · rcases k with _ | _ | _ | _ | _ | _ | _ | _ | _ | _ | _ | _ | _ | _ | _ | k
    all_goals first
      | rfl
      | (have hn2 : ¬ (r' = r ∧ i = pnT P r) := fun e => hn ⟨by simp, e.1, e.2⟩
         simp [gCell, eI, eD, adU, hn2]; done)
      | (have hc2 : r' ≠ r := fun e => hc ⟨by simp, e⟩
         simp [gCell, eI, eT, adU, hc2]; done)
      | (simp [gCell, eI, adU]; done)
  · obtain ⟨rfl | rfl, rfl, rfl⟩ := hn
    · rw [adU_k (by decide), adU_s]
      exact hna _ _ _ hl
    · rw [adU_s]
      exact hnq _ _ _ hl
  · obtain ⟨rfl | rfl, rfl, rfl⟩ := hn <;> obtain ⟨rfl | rfl, rfl, rfl⟩ := hn2
    · exact ⟨rfl, rfl, rfl⟩
    · rw [adU_k (by decide), adU_s, adU_s] at e
      exact absurd e haq
    · rw [adU_s, adU_k (by decide), adU_s] at e
      exact absurd e.symm haq
    · exact ⟨rfl, rfl, rfl⟩
theorem grow_guest {a : Nat} {v0 v1 v2 : Int32} (hR : gRep Z ad P h) (hna : ∀ k r i, gLive P k r i → ad k r i ≠ a) (hRD : ∀ r i j g, gLive P 12 r i → pRD P r i j = some g → g < pnG P) (hPL : ∀ r i j g, gLive P 13 r i → pPL P r i j = some g → g < pnG P) (ha : h' a = some (.inr (3, [.int v0, .int v1, .int v2, .int 0, .int 0, .int 0, .int 112, .int (-1), .int 0, .null, .int 0])))
    (h9 : h' (ad 9 0 0) = some (.inl (Z.2.2.2.1 2, 60, gRow (va_up (fun j => if j < pnG P then some (ad 1 j 0) else none) (pnG P) (some a)))))
    (h6 : h' (ad 6 0 0) = some (.inr (8, [.ref (ad 7 0 0), .int (nI (pnR P)), .ref (ad 8 0 0), .int (pI P 6 0 0 3), .ref (ad 9 0 0), .int (nI (pnG P + 1)), .int (pI P 6 0 0 6), .int (pI P 6 0 0 7), .int (pI P 6 0 0 8), .int (pI P 6 0 0 9), .long (pJ P 10 + v0.toInt64), .long (pJ P 11), .long (pJ P 12)])))
    (ho : ∀ x, x ≠ ad 9 0 0 → x ≠ ad 6 0 0 → ∀ c, h x = some c → h' x = some c) : gRep Z (adU ad 1 (pnG P) 0 a) (fEnter P v0 v1 v2) h' := by
  have l9 : gLive P 9 0 0 := ⟨rfl, rfl⟩
  have l6 : gLive P 6 0 0 := ⟨rfl, rfl⟩
  have eG : pnG (fEnter P v0 v1 v2) = pnG P + 1 := rfl
  have eI : ∀ k r' i' s, pI (fEnter P v0 v1 v2) k r' i' s = if k = 1 ∧ r' = pnG P ∧ i' = 0 then [v0, v1, v2, 0, 0, 0, 112, -1, 0, 0, 0].getD s 0 else pI P k r' i' s := fun _ _ _ _ => rfl
  have eJ : ∀ s, pJ (fEnter P v0 v1 v2) s = if s = 10 then pJ P 10 + v0.toInt64 else pJ P s := fun _ => rfl
  have eL : ∀ g, pGL (fEnter P v0 v1 v2) g = if g = pnG P then none else pGL P g := fun _ => rfl
  have eD : ∀ r' i' j, pRD (fEnter P v0 v1 v2) r' i' j = pRD P r' i' j := fun _ _ _ => rfl
  have eP : ∀ r' i' j, pPL (fEnter P v0 v1 v2) r' i' j = pPL P r' i' j := fun _ _ _ => rfl
  refine hR.grow2 (fun k r' i => k = 1 ∧ r' = pnG P ∧ i = 0) (fun k r' i => k = 9 ∨ k = 6) (fun k r' i hl hn => ⟨?_, adU_n hn⟩) (fun k r' i hl hn => ?_) (fun k r' i hl hc => ?_) (fun k r' i hl hc => ?_) (fun k r' i hl hn hc => ?_) (fun k r' i k2 r2 i2 hl hl2 hn => ?_) (fun k r' i k2 r2 i2 hn hn2 _ => ?_)
  · rcases k with _ | _ | k
    · exact hl
    · have hl1 : r' < pnG P + 1 ∧ i = 0 := hl
      have : r' ≠ pnG P := fun e => hn ⟨rfl, e, hl1.2⟩
      exact ⟨by omega, hl1.2⟩
    · rcases k with _ | _ | _ | _ | _ | _ | _ | _ | _ | _ | _ | _ | _ | k <;> exact hl
  · obtain ⟨rfl, rfl, rfl⟩ := hn
    rw [adU_s, ha]
    simp [gCell, eI, eL, va_rf]
  · rcases hc with rfl | rfl
    · obtain ⟨rfl, rfl⟩ := hl
      rw [h9]
      simp only [gCell, eG]
      congr 5
      funext j
      simp only [va_up, adU]
      by_cases e : j = pnG P
      · subst e; simp
      · have e3 : (j < pnG P + 1) = (j < pnG P) := by apply propext; omega
        simp [e, e3]
    · obtain ⟨rfl, rfl⟩ := hl
      rw [h6]
      simp [gCell, eG, eI, eJ, adU, show pnR (fEnter P v0 v1 v2) = pnR P from rfl]
  · refine ho _ (hR.ne hl l9 (fun e => hc (Or.inl e.1))) (hR.ne hl l6 (fun e => hc (Or.inr e.1))) _ (hR.1 _ _ _ hl)
  · have hmap : ∀ (o : Option Nat), (∀ g, o = some g → g < pnG P) → o.map (fun g => adU ad 1 (pnG P) 0 a 1 g 0) = o.map (fun g => ad 1 g 0) := by
      intro o ho2
      cases o with
      | none => rfl
      | some g =>
        have := ho2 g rfl
        simp only [Option.map_some, adU]
        rw [if_neg (fun e => by omega)]
    rcases k with _ | _ | _ | _ | _ | _ | _ | _ | _ | _ | _ | _ | _ | _ | _ | k
    all_goals first
      | rfl
      | (exfalso; revert hc; simp; done)
      | (have hn2 : ¬ (r' = pnG P) := fun e => hn ⟨rfl, e, hl.2⟩
         simp [gCell, eI, eL, adU, hn2]; done)
      | (simp only [gCell, eD]
         congr 5
         funext j
         exact hmap _ (fun g hg => hRD r' i j g hl hg))
      | (simp only [gCell, eP]
         congr 5
         funext j
         exact hmap _ (fun g hg => hPL r' i j g hl hg))
  · obtain ⟨rfl, rfl, rfl⟩ := hn
    rw [adU_s]
    exact hna _ _ _ hl
  · obtain ⟨rfl, rfl, rfl⟩ := hn
    obtain ⟨rfl, rfl, rfl⟩ := hn2
    exact ⟨rfl, rfl, rfl⟩
set_option maxHeartbeats 4000000 in
set_option maxRecDepth 100000 in
theorem c_X4_append {Z : gEnv} {ad : gAd} {P : gP} {h : gH} (G : gG Z) (hR : gRep Z ad P h) {r : Nat} (hl : gLive P 4 r 0) (hB : pnB P r < 12) {a : Nat} {v0 v1 v2 v3 : Int32} (ha : h a = some (.inr (2, [.int v0, .int v1, .int v2, .int v3, .int 116, .int 116]))) (hna : ∀ k r i, gLive P k r i → ad k r i ≠ a) : gMet Z yX4_append cX4_append 2 ((Option.some FieldType.int)) 1 0 0 [.ref (ad 4 r 0), .ref a] h (qIM (fun _ h2 => gRep Z (adU ad 0 r (pnB P r) a) (fAddB P r v0 v1 v2 v3) h2)) (qN) := by
  refine g_enter (lv := [(0, .ref (ad 4 r 0)), (1, .ref a)]) G.2 (by decide +kernel) (Nat.le_of_ble_eq_true rfl) rfl (fun Γ X Nt E RM => ?_)
  refine g_aload_n X dX4_append_0 rfl ?_
  refine gp_geti (j := 1) X hR hl cl_X4 lk_X4_17 rfl (by decide) rfl rfl dX4_append_1 (fun x1 e1 => ?_)
  refine g_if_lt 19 X dX4_append_4 (by decide) (fun c4 => ?_) (fun c4 => ?_)
  · skip
    exact absurd c4 (by rw [e1]; exact nI_pos (by omega))
  · skip
    refine g_aload_n X dX4_append_7 rfl ?_
    refine gp_geti (j := 1) X hR hl cl_X4 lk_X4_17 rfl (by decide) rfl rfl dX4_append_8 (fun x8 e8 => ?_)
    refine g_aload_n X dX4_append_11 rfl ?_
    refine gp_get (j := 0) (v := .ref (ad 10 r 0)) X hR hl cl_X4 lk_X4_11 rfl (by decide) rfl rfl dX4_append_12 ?_
    refine gp_alen (v := 12) X hR hl G.t3 rfl rfl dX4_append_15 ?_
    refine g_icmp_lt 21 X dX4_append_16 (by decide) (fun c16 => ?_) (fun c16 => ?_)
    · skip
      refine g_aload_n X dX4_append_21 rfl ?_
      refine gp_get (j := 0) (v := .ref (ad 10 r 0)) X hR hl cl_X4 lk_X4_11 rfl (by decide) rfl rfl dX4_append_22 ?_
      refine g_aload_n X dX4_append_25 rfl ?_
      refine gp_geti (j := 1) X hR hl cl_X4 lk_X4_17 rfl (by decide) rfl rfl dX4_append_26 (fun x26 e26 => ?_)
      refine g_aload_n X dX4_append_29 rfl ?_
      have f10 := hR.1 10 r 0 ⟨hl.1, rfl⟩
      refine gw_aast (j := pnB P r) X cl_X0 G.t3 f10 ha e26 hB (by decide) dX4_append_30 (fun h1 f10 fx1 => ?_)
      have n4 : ad 4 r 0 ≠ ad 10 r 0 := hR.ne hl ⟨hl.1, rfl⟩ (by simp)
      have f4 := (fx1 _ n4).trans (hR.1 4 r 0 hl)
      refine g_aload_n X dX4_append_31 rfl ?_
      refine g_dup X dX4_append_32 rfl ?_
      refine gw_geti (j := 1) X cl_X4 lk_X4_17 rfl (by decide) f4 rfl dX4_append_33 (fun x33 e33 => ?_)
      refine g_iconst (v := 1) X dX4_append_36 (by decide) ?_
      refine g_iadd X dX4_append_37 (fun x37 e37 => ?_)
      refine gw_put (j := 1) (fs' := [.ref (ad 10 r 0), .int x37, .int (pI P 4 r 0 2)]) X cl_X4 lk_X4_17 rfl (by decide) f4 rfl rfl rfl (Nat.le_of_ble_eq_true rfl) rfl dX4_append_38 (fun h2 f4 fx2 => ?_)
      refine g_aload_n X dX4_append_41 rfl ?_
      refine gw_geti (j := 1) X cl_X4 lk_X4_17 rfl (by decide) f4 rfl dX4_append_42 (fun x42 e42 => ?_)
      refine g_iconst (v := 1) X dX4_append_45 (by decide) ?_
      refine g_isub X dX4_append_46 (fun x46 e46 => ?_)
      refine g_ireturn X E rfl dX4_append_47 (by decide) (by decide) ?_
      have hx37 : x37 = nI (pnB P r + 1) := by rw [e37, e33]; exact nI_1 _
      rw [hx37] at f4
      have na10 : a ≠ ad 10 r 0 := (hna 10 r 0 ⟨hl.1, rfl⟩).symm
      have na4 : a ≠ ad 4 r 0 := (hna 4 r 0 hl).symm
      exact ⟨_, rfl, grow_block hR hl.1 hna ((fx2 _ na4).trans ((fx1 _ na10).trans ha)) ((fx2 _ n4.symm).trans f10) f4 (fun x m1 m2 c hc => (fx2 x m2).trans ((fx1 x m1).trans hc))⟩
    · skip
      exact absurd (by rw [e8]; exact nI_lt (b := 12) hB (by decide)) c16
end GGROW
