/-! a state grows: a block, a train, a ride, a guest -/
section GGROW
variable {Z : gEnv} {h h' : gH} {ad ad' : gAd} {P P' : gP}
theorem gRep.grow2 (hR : gRep Z ad P h) (N C : Nat → Nat → Nat → Prop)
    (h1 : ∀ k r i, gLive P' k r i → ¬ N k r i → gLive P k r i ∧ ad' k r i = ad k r i)
    (hN : ∀ k r i, gLive P' k r i → N k r i → h' (ad' k r i) = some (gCell Z.2.2.2.1 ad' P' k r i))
    (hC : ∀ k r i, gLive P k r i → C k r i → h' (ad k r i) = some (gCell Z.2.2.2.1 ad' P' k r i))
    (ho : ∀ k r i, gLive P k r i → ¬ C k r i → h' (ad k r i) = some (gCell Z.2.2.2.1 ad P k r i))
    (hs : ∀ k r i, gLive P k r i → ¬ N k r i → ¬ C k r i → gCell Z.2.2.2.1 ad' P' k r i = gCell Z.2.2.2.1 ad P k r i)
    (h3 : ∀ k r i k' r' i', gLive P k r i → gLive P' k' r' i' → N k' r' i' → ad k r i ≠ ad' k' r' i')
    (h4 : ∀ k r i k' r' i', N k r i → N k' r' i' → ad' k r i = ad' k' r' i' → k = k' ∧ r = r' ∧ i = i') : gRep Z ad' P' h' := by
  refine hR.grow N h1 (fun k r i hl => ?_) h3 h4
  by_cases n1 : N k r i
  · exact hN k r i hl n1
  · obtain ⟨q1, q2⟩ := h1 k r i hl n1
    rw [q2]
    by_cases c1 : C k r i
    · exact hC k r i q1 c1
    · rw [hs k r i q1 n1 c1]
      exact ho k r i q1 c1
theorem gRep.ne (hR : gRep Z ad P h) {k r i k' r' i' : Nat} (l1 : gLive P k r i) (l2 : gLive P k' r' i') (hn : ¬ (k = k' ∧ r = r' ∧ i = i')) : ad k r i ≠ ad k' r' i' := fun e => hn (hR.2 _ _ _ _ _ _ l1 l2 e)
theorem grow_block {r a : Nat} {v0 v1 v2 v3 : Int32} (hR : gRep Z ad P h) (hr : r < pnR P) (hna : ∀ k r i, gLive P k r i → ad k r i ≠ a) (ha : h' a = some (.inr (2, [.int v0, .int v1, .int v2, .int v3, .int 116, .int 116])))
    (h10 : h' (ad 10 r 0) = some (.inl (Z.2.2.2.1 3, 12, gRow (va_up (fun j => if j < pnB P r then some (ad 0 r j) else none) (pnB P r) (some a)))))
    (h4 : h' (ad 4 r 0) = some (.inr (6, [.ref (ad 10 r 0), .int (nI (pnB P r + 1)), .int (pI P 4 r 0 2)])))
    (ho : ∀ x, x ≠ ad 10 r 0 → x ≠ ad 4 r 0 → ∀ c, h x = some c → h' x = some c) : gRep Z (adU ad 0 r (pnB P r) a) (fAddB P r v0 v1 v2 v3) h' := by
  have l10 : gLive P 10 r 0 := ⟨hr, rfl⟩
  have l4 : gLive P 4 r 0 := ⟨hr, rfl⟩
  have eB : ∀ x, pnB (fAddB P r v0 v1 v2 v3) x = if x = r then pnB P r + 1 else pnB P x := fun _ => rfl
  have eI : ∀ k r' i' s, pI (fAddB P r v0 v1 v2 v3) k r' i' s = if k = 0 ∧ r' = r ∧ i' = pnB P r then [v0, v1, v2, v3, 116, 116].getD s 0 else pI P k r' i' s := fun _ _ _ _ => rfl
  refine hR.grow2 (fun k r' i => k = 0 ∧ r' = r ∧ i = pnB P r) (fun k r' i => (k = 10 ∨ k = 4) ∧ r' = r) (fun k r' i hl hn => ⟨?_, adU_n hn⟩) (fun k r' i hl hn => ?_) (fun k r' i hl hc => ?_) (fun k r' i hl hc => ?_) (fun k r' i hl hn hc => ?_) (fun k r' i k2 r2 i2 hl hl2 hn => ?_) (fun k r' i k2 r2 i2 hn hn2 _ => ?_)
  · rcases k with _ | k
    · have hl1 : r' < pnR P ∧ i < pnB (fAddB P r v0 v1 v2 v3) r' := hl
      rw [eB] at hl1
      refine ⟨hl1.1, ?_⟩
      by_cases e : r' = r
      · subst e
        rw [if_pos rfl] at hl1
        have : i ≠ pnB P r' := fun e => hn ⟨rfl, rfl, e⟩
        show i < pnB P r'
        omega
      · rw [if_neg e] at hl1
        exact hl1.2
    · rcases k with _ | _ | _ | _ | _ | _ | _ | _ | _ | _ | _ | _ | _ | _ | k <;> exact hl
  · obtain ⟨rfl, rfl, rfl⟩ := hn
    rw [adU_s, ha]
    simp [gCell, eI]
  · obtain ⟨rfl | rfl, rfl⟩ := hc
    · obtain rfl : i = 0 := hl.2
      rw [h10]
      simp only [gCell, eB, if_pos]
      congr 5
      funext j
      simp only [va_up, adU]
      by_cases e : j = pnB P r'
      · subst e; simp
      · have e3 : (j < pnB P r' + 1) = (j < pnB P r') := by apply propext; omega
        simp [e, e3]
    · obtain rfl : i = 0 := hl.2
      rw [h4]
      simp [gCell, eB, eI, adU]
  · refine ho _ (hR.ne hl l10 (fun e => hc ⟨Or.inl e.1, e.2.1⟩)) (hR.ne hl l4 (fun e => hc ⟨Or.inr e.1, e.2.1⟩)) _ (hR.1 _ _ _ hl)
  · rcases k with _ | _ | _ | _ | _ | _ | _ | _ | _ | _ | _ | _ | _ | _ | _ | k
    all_goals first
      | rfl
      | (have hn2 : ¬ (r' = r ∧ i = pnB P r) := fun e => hn ⟨rfl, e.1, e.2⟩
         simp [gCell, eI, hn2]; done)
      | (have hc2 : r' ≠ r := fun e => hc ⟨by simp, e⟩
         simp [gCell, eI, eB, adU, hc2]; done)
      | (simp [gCell, eI, adU]; done)
  · obtain ⟨rfl, rfl, rfl⟩ := hn
    rw [adU_s]
    exact hna _ _ _ hl
  · obtain ⟨rfl, rfl, rfl⟩ := hn
    obtain ⟨rfl, rfl, rfl⟩ := hn2
    exact ⟨rfl, rfl, rfl⟩
set_option maxHeartbeats 4000000 in
set_option maxRecDepth 100000 in
theorem c_X4_append {Z : gEnv} {ad : gAd} {P : gP} {h : gH} (G : gG Z) (hR : gRep Z ad P h) {r : Nat} (hl : gLive P 4 r 0) (hB : pnB P r < 12) {a : Nat} {v0 v1 v2 v3 : Int32} (ha : h a = some (.inr (2, [.int v0, .int v1, .int v2, .int v3, .int 116, .int 116]))) (hna : ∀ k r i, gLive P k r i → ad k r i ≠ a) : gMet Z yX4_append cX4_append 2 ((Option.some FieldType.int)) 1 0 0 [.ref (ad 4 r 0), .ref a] h (qIM (fun _ h2 => gRep Z (adU ad 0 r (pnB P r) a) (fAddB P r v0 v1 v2 v3) h2)) (qN) := by
  refine g_enter (lv := [(0, .ref (ad 4 r 0)), (1, .ref a)]) G.2 (by decide +kernel) (Nat.le_of_ble_eq_true rfl) rfl (fun Γ X Nt E RM => ?_)
  refine g_aload_n X dX4_append_0 rfl ?_
  refine gp_geti (j := 1) X hR hl cl_X4 lk_X4_17 rfl (by decide) rfl rfl dX4_append_1 (fun x1 e1 => ?_)
  refine g_if_lt 19 X dX4_append_4 (by decide) (fun c4 => ?_) (fun c4 => ?_)
  · skip
    exact absurd c4 (by rw [e1]; exact nI_pos (by omega))
  · skip
    refine g_aload_n X dX4_append_7 rfl ?_
    refine gp_geti (j := 1) X hR hl cl_X4 lk_X4_17 rfl (by decide) rfl rfl dX4_append_8 (fun x8 e8 => ?_)
    refine g_aload_n X dX4_append_11 rfl ?_
    refine gp_get (j := 0) (v := .ref (ad 10 r 0)) X hR hl cl_X4 lk_X4_11 rfl (by decide) rfl rfl dX4_append_12 ?_
    refine gp_alen (v := 12) X hR hl G.t3 rfl rfl dX4_append_15 ?_
    refine g_icmp_lt 21 X dX4_append_16 (by decide) (fun c16 => ?_) (fun c16 => ?_)
    · skip
      refine g_aload_n X dX4_append_21 rfl ?_
      refine gp_get (j := 0) (v := .ref (ad 10 r 0)) X hR hl cl_X4 lk_X4_11 rfl (by decide) rfl rfl dX4_append_22 ?_
      refine g_aload_n X dX4_append_25 rfl ?_
      refine gp_geti (j := 1) X hR hl cl_X4 lk_X4_17 rfl (by decide) rfl rfl dX4_append_26 (fun x26 e26 => ?_)
      refine g_aload_n X dX4_append_29 rfl ?_
      have f10 := hR.1 10 r 0 ⟨hl.1, rfl⟩
      refine gw_aast (j := pnB P r) X cl_X0 G.t3 f10 ha e26 hB (by decide) dX4_append_30 (fun h1 f10 fx1 => ?_)
      have n4 : ad 4 r 0 ≠ ad 10 r 0 := hR.ne hl ⟨hl.1, rfl⟩ (by simp)
      have f4 := (fx1 _ n4).trans (hR.1 4 r 0 hl)
      refine g_aload_n X dX4_append_31 rfl ?_
      refine g_dup X dX4_append_32 rfl ?_
      refine gw_geti (j := 1) X cl_X4 lk_X4_17 rfl (by decide) f4 rfl dX4_append_33 (fun x33 e33 => ?_)
      refine g_iconst (v := 1) X dX4_append_36 (by decide) ?_
      refine g_iadd X dX4_append_37 (fun x37 e37 => ?_)
      refine gw_put (j := 1) (fs' := [.ref (ad 10 r 0), .int x37, .int (pI P 4 r 0 2)]) X cl_X4 lk_X4_17 rfl (by decide) f4 rfl rfl rfl (Nat.le_of_ble_eq_true rfl) rfl dX4_append_38 (fun h2 f4 fx2 => ?_)
      refine g_aload_n X dX4_append_41 rfl ?_
      refine gw_geti (j := 1) X cl_X4 lk_X4_17 rfl (by decide) f4 rfl dX4_append_42 (fun x42 e42 => ?_)
      refine g_iconst (v := 1) X dX4_append_45 (by decide) ?_
      refine g_isub X dX4_append_46 (fun x46 e46 => ?_)
      refine g_ireturn X E rfl dX4_append_47 (by decide) (by decide) ?_
      have hx37 : x37 = nI (pnB P r + 1) := by rw [e37, e33]; exact nI_1 _
      rw [hx37] at f4
      have na10 : a ≠ ad 10 r 0 := (hna 10 r 0 ⟨hl.1, rfl⟩).symm
      have na4 : a ≠ ad 4 r 0 := (hna 4 r 0 hl).symm
      exact ⟨_, rfl, grow_block hR hl.1 hna ((fx2 _ na4).trans ((fx1 _ na10).trans ha)) ((fx2 _ n4.symm).trans f10) f4 (fun x m1 m2 c hc => (fx2 x m2).trans ((fx1 x m1).trans hc))⟩
    · skip
      exact absurd (by rw [e8]; exact nI_lt (b := 12) hB (by decide)) c16
end GGROW
