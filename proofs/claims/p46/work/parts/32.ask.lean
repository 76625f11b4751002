/-! the law's questions: ask, by number, over the park's invariant -/
section GASK
variable {Z : gEnv} {Γ : gCtx} {cc : ByteArray} {own : String} {nL : Nat} {ret : Option FieldType} {h : gH} {k n pc : Nat} {lv lv' : List (Nat × Value)} {st st' : List Value}
/-- the park at the address a, in the state P -/
def LR (Z : gEnv) (a : Nat) (P : gP) (h : gH) : Prop := ∃ ad : gAd, ad 6 0 0 = a ∧ gRep Z ad P h
theorem LR.box {a : Nat} {P : gP} (hR : LR Z a P h) : ∃ fs, h a = some (.inr (8, fs)) := by
  obtain ⟨ad, rfl, hR⟩ := hR
  exact ⟨_, hR.1 6 0 0 ⟨rfl, rfl⟩⟩
theorem gRep.box {ad : gAd} {P : gP} (hR : gRep Z ad P h) : ∃ fs, h (ad 6 0 0) = some (.inr (8, fs)) := ⟨_, hR.1 6 0 0 ⟨rfl, rfl⟩⟩
theorem LR.ext {a : Nat} {P : gP} {h' : gH} (hR : LR Z a P h) (hx : ∀ b x, h b = some x → h' b = some x) : LR Z a P h' := by
  obtain ⟨ad, e, hR⟩ := hR
  exact ⟨ad, e, hR.ext hx⟩
theorem hx_T {F : String → Prop} (hF : ∀ E, F E → E ∈ eAll) : ∀ E h1, qT h F E h1 → E ∈ eAll := fun E _ q => hF E q.1
theorem hx_N : ∀ E h1, qN E h1 → E ∈ eAll := fun _ _ q => q.elim
theorem eIDX_in : eIDX ∈ eAll := by simp [eAll]
theorem eREF_in : eREF ∈ eAll := by simp [eAll]
theorem eSTA_in : eSTA ∈ eAll := by simp [eAll]
theorem code_IDX : codeE eIDX = -2001 := by decide
theorem code_REF : codeE eREF = -2004 := by decide
theorem code_STA : codeE eSTA = -2003 := by decide
set_option maxHeartbeats 4000000 in
set_option maxRecDepth 100000 in
theorem c_L_askM (G : gG Z) {a0 d mc ms : Nat} {w a1 a2 : Int32} {Q Q' : Option Value → gH → Prop} (hQ : gNum Q) (hI : ∀ v h', Q v h' → Q' v h') (hM : gMetH Z yL_deed cL_deed 8 (some .int) hhD d mc ms [.ref a0, .int w, .int a1, .int a2, .int 0, .int 0, .int 0] h Q qN) : gMet Z yL_ask cL_ask 4 (some .int) (d + 1) mc ms [.ref a0, .int w, .int a1, .int a2] h Q' qN := by
  refine g_enter (lv := [(0, .ref a0), (1, .int w), (2, .int a1), (3, .int a2)]) G.2 (by decide +kernel) (Nat.le_of_ble_eq_true rfl) rfl (fun Γ X Nt E RM => ?_)
  refine g_aload_n X dL_ask_0 rfl ?_
  refine g_iload_n X dL_ask_1 rfl ?_
  refine g_iload_n X dL_ask_2 rfl ?_
  refine g_iload_n X dL_ask_3 rfl ?_
  refine g_iconst (v := 0) X dL_ask_4 (by decide) ?_
  refine g_iconst (v := 0) X dL_ask_5 (by decide) ?_
  refine g_iconst (v := 0) X dL_ask_6 (by decide) ?_
  refine g_callSH X lh_L_160 hM rfl rfl (Nat.le_of_ble_eq_true rfl) (by rw [RM]; show d + 1 ≤ d + 1 ∧ 8 + (8 + 11) + 50 * d ≤ 50 * (d + 1); omega) (by rw [RM]; show 0 + mc ≤ mc ∧ 0 + ms ≤ ms; omega) dL_ask_7 (fun v h1 q => ?_) (fun _ _ q => q.elim)
  have q2 := hI v h1 q
  obtain ⟨x, rfl⟩ := hQ v h1 q
  refine GJ.seq (st' := [.int x]) rfl ?_
  refine g_ireturn X E rfl dL_ask_10 (by omega) (by omega) ?_
  exact q2
set_option maxHeartbeats 4000000 in
set_option maxRecDepth 100000 in
theorem c_L_blockM (G : gG Z) {a0 d mc ms : Nat} {a1 a2 a3 a4 a5 : Int32} {Q Q' : Option Value → gH → Prop} (hQ : gNum Q) (hI : ∀ v h', Q v h' → Q' v h') (hM : gMetH Z yL_deed cL_deed 8 (some .int) hhD d mc ms [.ref a0, .int 1, .int a1, .int a2, .int a3, .int a4, .int a5] h Q qN) : gMet Z yL_block cL_block 6 (some .int) (d + 1) mc ms [.ref a0, .int a1, .int a2, .int a3, .int a4, .int a5] h Q' qN := by
  refine g_enter (lv := [(0, .ref a0), (1, .int a1), (2, .int a2), (3, .int a3), (4, .int a4), (5, .int a5)]) G.2 (by decide +kernel) (Nat.le_of_ble_eq_true rfl) rfl (fun Γ X Nt E RM => ?_)
  refine g_aload_n X dL_block_0 rfl ?_
  refine g_iconst (v := 1) X dL_block_1 (by decide) ?_
  refine g_iload_n X dL_block_2 rfl ?_
  refine g_iload_n X dL_block_3 rfl ?_
  refine g_iload_n X dL_block_4 rfl ?_
  refine g_iload X dL_block_5 rfl ?_
  refine g_iload X dL_block_7 rfl ?_
  refine g_callSH X lh_L_160 hM rfl rfl (Nat.le_of_ble_eq_true rfl) (by rw [RM]; show d + 1 ≤ d + 1 ∧ 8 + (8 + 11) + 50 * d ≤ 50 * (d + 1); omega) (by rw [RM]; show 0 + mc ≤ mc ∧ 0 + ms ≤ ms; omega) dL_block_9 (fun v h1 q => ?_) (fun _ _ q => q.elim)
  have q2 := hI v h1 q
  obtain ⟨x, rfl⟩ := hQ v h1 q
  refine GJ.seq (st' := [.int x]) rfl ?_
  refine g_ireturn X E rfl dL_block_12 (by omega) (by omega) ?_
  exact q2
theorem ask_A (G : gG Z) {a0 d mc ms : Nat} {w a1 a2 : Int32} {Q Q' : Option Value → gH → Prop} {QX : String → gH → Prop} (hw : ¬ w < 30) (hQ : gNum Q) (hX : ∀ E h1, QX E h1 → E ∈ eAll) (hI : ∀ v h', qDeed Q QX v h' → Q' v h') (hM : gMet Z yL_asked cL_asked 5 (some .int) d mc ms [.ref a0, .int w, .int a1, .int a2, .int 0] h Q QX) : gMet Z yL_ask cL_ask 4 (some .int) (d + 1 + 1) mc ms [.ref a0, .int w, .int a1, .int a2] h Q' qN := c_L_askM G hQ.deed hI (c_L_deedA G hw hQ hX hM)
theorem ask_D (G : gG Z) {a0 d mc ms : Nat} {w a1 a2 : Int32} {Q Q' : Option Value → gH → Prop} {QX : String → gH → Prop} (hw : w < 30) (hQ : gNum Q) (hX : ∀ E h1, QX E h1 → E ∈ eAll) (hI : ∀ v h', qDeed Q QX v h' → Q' v h') (hM : gMet Z yL_done cL_done 7 (some .int) d mc ms [.ref a0, .int w, .int a1, .int a2, .int 0, .int 0, .int 0] h Q QX) : gMet Z yL_ask cL_ask 4 (some .int) (d + 1 + 1) mc ms [.ref a0, .int w, .int a1, .int a2] h Q' qN := c_L_askM G hQ.deed hI (c_L_deedD G hw hQ hX hM)
theorem a_30 (G : gG Z) {a : Nat} {P : gP} (hL : LR Z a P h) (hI : Inv P) {x : Int32} {r : Nat} (hx : x = nI r) (hr : r < pnR P) {z : Int32} : gMet Z yL_ask cL_ask 4 (some .int) 10 0 0 [.ref a, .int 30, .int x, .int z] h (qI h (fun y => y = fKp P r)) qN := by
  obtain ⟨ad, rfl, hR⟩ := hL
  obtain ⟨fs, hb⟩ := hR.box
  refine ask_A G (by decide) gNum.I hx_N (fun v h2 q => ?_) (c_L_asked_30 G hb gNum.I (c_X6_keeps G hR hI.wf hx hr))
  rcases q with q | ⟨E, q, -⟩
  · obtain ⟨x, rfl, q, rfl⟩ := q
    exact ⟨x, rfl, q, rfl⟩
  · exact q.elim
theorem a_32 (G : gG Z) {a : Nat} {P : gP} (hL : LR Z a P h) (hI : Inv P) {x : Int32} {r : Nat} (hx : x = nI r) (hr : r < pnR P) {z : Int32} : gMet Z yL_ask cL_ask 4 (some .int) 11 1 6 [.ref a, .int 32, .int x, .int z] h (qI h (fun y => ((∃ b, z = nI b ∧ b < pnB P r) ∧ ((y = 1 ∧ ∃ i, i < pnT P r ∧ ¬ pI P 5 r i 6 &&& (1 <<< (z &&& 31)) = 0) ∨ (y = 0 ∧ ∀ i, i < pnT P r → pI P 5 r i 6 &&& (1 <<< (z &&& 31)) = 0))) ∨ (y = -2001 ∧ ∀ i, i < pnB P r → z ≠ nI i))) qN := by
  obtain ⟨ad, rfl, hR⟩ := hL
  obtain ⟨fs, hb⟩ := hR.box
  refine ask_A G (by decide) gNum.told (hx_T (fun E q => by rw [q.1]; exact eIDX_in)) (fun v h2 q => ?_) (c_L_asked_32 G hb (by decide) gNum.I (c_X6_isHeld G hR hI.wf hx hr))
  rcases q with q | ⟨E, ⟨⟨rfl, q⟩, rfl⟩, rfl⟩
  · obtain ⟨_, ⟨x, ex, q, rfl⟩, rfl⟩ := q
    cases ex
    refine ⟨_, rfl, Or.inl ⟨q.1, ?_⟩, rfl⟩
    rcases q.2 with ⟨rfl, q2⟩ | ⟨rfl, q2⟩
    · exact Or.inl ⟨rfl, q2⟩
    · exact Or.inr ⟨rfl, q2⟩
  · exact ⟨_, rfl, Or.inr ⟨code_IDX, q⟩, rfl⟩
theorem a_33 (G : gG Z) {a : Nat} {P : gP} (hL : LR Z a P h) (hI : Inv P) {x : Int32} {r : Nat} (hx : x = nI r) (hr : r < pnR P) {z : Int32} : gMet Z yL_ask cL_ask 4 (some .int) 11 1 6 [.ref a, .int 33, .int x, .int z] h (qI h (fun y => (y = 0 ∨ y = 1) ∨ (y = -2001 ∧ ∀ i, i < pnB P r → z ≠ nI i))) qN := by
  obtain ⟨ad, rfl, hR⟩ := hL
  obtain ⟨fs, hb⟩ := hR.box
  refine ask_A G (by decide) gNum.told (hx_T (fun E q => by rw [q.1]; exact eIDX_in)) (fun v h2 q => ?_) (c_L_asked_33 G hb (by decide) gNum.I (c_X6_sees G hR hI.wf hx hr (Or.inl rfl)))
  rcases q with q | ⟨E, ⟨⟨rfl, q⟩, rfl⟩, rfl⟩
  · obtain ⟨_, ⟨x, ex, q, rfl⟩, rfl⟩ := q
    cases ex
    rcases q with rfl | rfl
    · exact ⟨_, rfl, Or.inl (Or.inl rfl), rfl⟩
    · exact ⟨_, rfl, Or.inl (Or.inr rfl), rfl⟩
  · exact ⟨_, rfl, Or.inr ⟨code_IDX, q⟩, rfl⟩
theorem a_35 (G : gG Z) {a : Nat} {P : gP} (hL : LR Z a P h) (hI : Inv P) {x : Int32} {r : Nat} (hx : x = nI r) (hr : r < pnR P) {z : Int32} : gMet Z yL_ask cL_ask 4 (some .int) 11 1 6 [.ref a, .int 35, .int x, .int z] h (qI h (fun y => (∃ i, z = nI i ∧ i < pnT P r ∧ y = pI P 5 r i 3) ∨ (y = -2001 ∧ ∀ i, i < pnT P r → z ≠ nI i))) qN := by
  obtain ⟨ad, rfl, hR⟩ := hL
  obtain ⟨fs, hb⟩ := hR.box
  refine ask_A G (by decide) gNum.I (hx_T (fun E q => by rw [q.1]; exact eIDX_in)) (fun v h2 q => ?_) (c_L_asked_35 G hb gNum.I (c_X6_blockOf G hR hI.wf hx hr))
  rcases q with q | ⟨E, ⟨⟨rfl, q⟩, rfl⟩, rfl⟩
  · obtain ⟨x, rfl, q, rfl⟩ := q
    exact ⟨x, rfl, Or.inl q, rfl⟩
  · exact ⟨_, rfl, Or.inr ⟨code_IDX, q⟩, rfl⟩
theorem a_36 (G : gG Z) {a : Nat} {P : gP} (hL : LR Z a P h) (hI : Inv P) {x : Int32} {r : Nat} (hx : x = nI r) (hr : r < pnR P) {z : Int32} : gMet Z yL_ask cL_ask 4 (some .int) 11 1 6 [.ref a, .int 36, .int x, .int z] h (qI h (fun y => (∃ i, z = nI i ∧ i < pnT P r ∧ y = pI P 5 r i 4) ∨ (y = -2001 ∧ ∀ i, i < pnT P r → z ≠ nI i))) qN := by
  obtain ⟨ad, rfl, hR⟩ := hL
  obtain ⟨fs, hb⟩ := hR.box
  refine ask_A G (by decide) gNum.I (hx_T (fun E q => by rw [q.1]; exact eIDX_in)) (fun v h2 q => ?_) (c_L_asked_36 G hb gNum.I (c_X6_energy G hR hI.wf hx hr))
  rcases q with q | ⟨E, ⟨⟨rfl, q⟩, rfl⟩, rfl⟩
  · obtain ⟨x, rfl, q, rfl⟩ := q
    exact ⟨x, rfl, Or.inl q, rfl⟩
  · exact ⟨_, rfl, Or.inr ⟨code_IDX, q⟩, rfl⟩
theorem a_37 (G : gG Z) {a : Nat} {P : gP} (hL : LR Z a P h) (hI : Inv P) {x : Int32} {r : Nat} (hx : x = nI r) (hr : r < pnR P) {z : Int32} : gMet Z yL_ask cL_ask 4 (some .int) 11 1 6 [.ref a, .int 37, .int x, .int z] h (qI h (fun y => (∃ i, z = nI i ∧ i < pnT P r ∧ y = pI P 5 r i 5) ∨ (y = -2001 ∧ ∀ i, i < pnT P r → z ≠ nI i))) qN := by
  obtain ⟨ad, rfl, hR⟩ := hL
  obtain ⟨fs, hb⟩ := hR.box
  refine ask_A G (by decide) gNum.I (hx_T (fun E q => by rw [q.1]; exact eIDX_in)) (fun v h2 q => ?_) (c_L_asked_37 G hb gNum.I (c_X6_stateOf G hR hI.wf hx hr))
  rcases q with q | ⟨E, ⟨⟨rfl, q⟩, rfl⟩, rfl⟩
  · obtain ⟨x, rfl, q, rfl⟩ := q
    exact ⟨x, rfl, Or.inl q, rfl⟩
  · exact ⟨_, rfl, Or.inr ⟨code_IDX, q⟩, rfl⟩
theorem a_38 (G : gG Z) {a : Nat} {P : gP} (hL : LR Z a P h) (hI : Inv P) {x : Int32} {r : Nat} (hx : x = nI r) (hr : r < pnR P) {z : Int32} : gMet Z yL_ask cL_ask 4 (some .int) 11 1 6 [.ref a, .int 38, .int x, .int z] h (qI h (fun y => (∃ i, z = nI i ∧ i < pnT P r ∧ y = pI P 5 r i 2) ∨ (y = -2001 ∧ ∀ i, i < pnT P r → z ≠ nI i))) qN := by
  obtain ⟨ad, rfl, hR⟩ := hL
  obtain ⟨fs, hb⟩ := hR.box
  refine ask_A G (by decide) gNum.I (hx_T (fun E q => by rw [q.1]; exact eIDX_in)) (fun v h2 q => ?_) (c_L_asked_38 G hb gNum.I (c_X6_aboard G hR hI.wf hx hr))
  rcases q with q | ⟨E, ⟨⟨rfl, q⟩, rfl⟩, rfl⟩
  · obtain ⟨x, rfl, q, rfl⟩ := q
    exact ⟨x, rfl, Or.inl q, rfl⟩
  · exact ⟨_, rfl, Or.inr ⟨code_IDX, q⟩, rfl⟩
theorem a_39 (G : gG Z) {a : Nat} {P : gP} (hL : LR Z a P h) (hI : Inv P) {x : Int32} {r : Nat} (hx : x = nI r) (hr : r < pnR P) {c : Int32} {q : Nat} (hq : c = 108 ∧ q = 0 ∨ c = 115 ∧ q = 1 ∨ c = 114 ∧ q = 2) : gMet Z yL_ask cL_ask 4 (some .int) 6 0 0 [.ref a, .int 39, .int x, .int c] h (qI h (fun y => y = pI P 2 r q 1)) qN := by
  obtain ⟨ad, rfl, hR⟩ := hL
  obtain ⟨fs, hb⟩ := hR.box
  refine ask_A G (by decide) gNum.I hx_N (fun v h2 q => ?_) (c_L_asked_39 G hb (by rcases hq with ⟨rfl, -⟩ | ⟨rfl, -⟩ | ⟨rfl, -⟩ <;> decide) gNum.I (c_X6_waiting G hR hI.wf hx hr hq))
  rcases q with q | ⟨E, q, -⟩
  · obtain ⟨x, rfl, q, rfl⟩ := q
    exact ⟨x, rfl, q, rfl⟩
  · exact q.elim
theorem a_40 (G : gG Z) {a : Nat} {P : gP} (hL : LR Z a P h) (hI : Inv P) {x : Int32} {g : Nat} (hx : x = nI g) (hg : g < pnG P) {z : Int32} : gMet Z yL_ask cL_ask 4 (some .int) 5 0 0 [.ref a, .int 40, .int x, .int z] h (qI h (fun y => y = pI P 1 g 0 6)) qN := by
  obtain ⟨ad, rfl, hR⟩ := hL
  obtain ⟨fs, hb⟩ := hR.box
  refine ask_A G (by decide) gNum.I hx_N (fun v h2 q => ?_) (c_L_asked_40 G hb gNum.I (c_X6_whereIs G hR hI.wf hx hg))
  rcases q with q | ⟨E, q, -⟩
  · obtain ⟨x, rfl, q, rfl⟩ := q
    exact ⟨x, rfl, q, rfl⟩
  · exact q.elim
theorem a_41 (G : gG Z) {a : Nat} {P : gP} (hL : LR Z a P h) (hI : Inv P) {x : Int32} {g : Nat} (hx : x = nI g) (hg : g < pnG P) {c : Int32} (hc : c = 109 ∨ c = 104 ∨ c = 110) : gMet Z yL_ask cL_ask 4 (some .int) 5 0 0 [.ref a, .int 41, .int x, .int c] h (qI h (fun y => y = fGet P g c)) qN := by
  obtain ⟨ad, rfl, hR⟩ := hL
  obtain ⟨fs, hb⟩ := hR.box
  refine ask_A G (by decide) gNum.I hx_N (fun v h2 q => ?_) (c_L_asked_41 G hb (by rcases hc with rfl | rfl | rfl <;> decide) gNum.I (c_X6_get G hR hI.wf hx hg hc))
  rcases q with q | ⟨E, q, -⟩
  · obtain ⟨x, rfl, q, rfl⟩ := q
    exact ⟨x, rfl, q, rfl⟩
  · exact q.elim
theorem a_43 (G : gG Z) {a : Nat} {P : gP} (hL : LR Z a P h) (hI : Inv P) {x : Int32} {r : Nat} (hx : x = nI r) (hr : r < pnR P) {z : Int32} : gMet Z yL_ask cL_ask 4 (some .int) 5 0 0 [.ref a, .int 43, .int x, .int z] h (qI h (fun y => y = pI P 3 r 0 12)) qN := by
  obtain ⟨ad, rfl, hR⟩ := hL
  obtain ⟨fs, hb⟩ := hR.box
  refine ask_A G (by decide) gNum.I hx_N (fun v h2 q => ?_) (c_L_asked_43 G hb gNum.I (c_X6_cycles G hR hI.wf hx hr))
  rcases q with q | ⟨E, q, -⟩
  · obtain ⟨x, rfl, q, rfl⟩ := q
    exact ⟨x, rfl, q, rfl⟩
  · exact q.elim
end GASK
