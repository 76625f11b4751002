/-! areTrainsApart: its contract -/
section GAPART
variable {Z : gEnv} {Γ : gCtx} {cc : ByteArray} {own : String} {nL : Nat} {ret : Option FieldType} {h : gH} {k n pc : Nat} {lv lv' : List (Nat × Value)} {st st' : List Value} {B O : Int64} {t : Int32} {a : Nat} {P : gP}
theorem gw_iald {q ty m j : Nat} {f : Nat → Int32} {i : Int32} (X : gOK Z Γ cc own nL ret) (ht : gTy Z ty .int) (hq : h q = some (.inl (Z.2.2.2.1 ty, m, .inl f))) (hi : i = nI j) (hj : j < m) (hm : m < 2 ^ 31) (d : decode cc pc = .ok (.iaload, 1)) (kk : ∀ z : Int32, z = f j → GJ Z Γ h k n (pc + 1) lv (.int z :: st)) : GJ Z Γ h k n pc lv (.int i :: .ref q :: st) := by
  subst hi
  refine g_iald X ht hq (vp_in_nI hj hm) d ?_
  rw [nI_clamp (Nat.lt_trans hj hm)]
  exact kk
theorem gw_iast {q ty m j : Nat} {f : Nat → Int32} {i x : Int32} (X : gOK Z Γ cc own nL ret) (ht : gTy Z ty .int) (hq : h q = some (.inl (Z.2.2.2.1 ty, m, .inl f))) (hi : i = nI j) (hj : j < m) (hm : m < 2 ^ 31) (d : decode cc pc = .ok (.iastore, 1)) (kk : ∀ h' : gH, h' q = some (.inl (Z.2.2.2.1 ty, m, .inl (upd f j x))) → (∀ y, y ≠ q → h' y = h y) → GJ Z Γ h' k n (pc + 1) lv st) : GJ Z Γ h k n pc lv (.int x :: .int i :: .ref q :: st) := by
  subst hi
  refine g_iast X ht hq (vp_in_nI hj hm) d ?_
  rw [nI_clamp (Nat.lt_trans hj hm)]
  exact kk _ (if_pos rfl) (fun y hy => if_neg hy)
theorem ne_idx {b : Nat} (h : b < 2 ^ 31) : ¬ nI b = -2001 := fun e => nI_pos h (by rw [e]; decide)
theorem tr_at {F : Nat → Int32} {y x : Int32} {nT i : Nat} (e : (∃ j, x = nI j ∧ j < nT ∧ y = F j) ∨ (y = -2001 ∧ ∀ j, j < nT → x ≠ nI j)) (hx : x = nI i) (hi : i < nT) (h4 : nT ≤ 4) : y = F i := by
  rcases e with ⟨j, e1, e2, e3⟩ | ⟨-, e2⟩
  · have : i = j := (nI_eq (by omega) (by omega)).mp (hx.symm.trans e1)
    subst this
    exact e3
  · exact absurd hx (e2 i hi)
theorem tr_end {F : Nat → Int32} {y x : Int32} {nT : Nat} (e : (∃ j, x = nI j ∧ j < nT ∧ y = F j) ∨ (y = -2001 ∧ ∀ j, j < nT → x ≠ nI j)) (hx : x = nI nT) (h4 : nT ≤ 4) : y = -2001 := by
  rcases e with ⟨j, e1, e2, e3⟩ | ⟨e1, -⟩
  · have : nT = j := (nI_eq (by omega) (by omega)).mp (hx.symm.trans e1)
    omega
  · exact e1
/-- the answer of isHeld, as asked -/
def qHeld (P : gP) (r : Nat) (z y : Int32) : Prop := ((∃ b, z = nI b ∧ b < pnB P r) ∧ ((y = 1 ∧ ∃ i, i < pnT P r ∧ ¬ pI P 5 r i 6 &&& (1 <<< (z &&& 31)) = 0) ∨ (y = 0 ∧ ∀ i, i < pnT P r → pI P 5 r i 6 &&& (1 <<< (z &&& 31)) = 0))) ∨ (y = -2001 ∧ ∀ i, i < pnB P r → z ≠ nI i)
theorem held_1 {r i b : Nat} {z y : Int32} (e : qHeld P r z y) (hi : i < pnT P r) (hh : ¬ pI P 5 r i 6 &&& (1 <<< (z &&& 31)) = 0) (hz : z = nI b) (hb : b < pnB P r) : y = 1 := by
  rcases e with ⟨-, ⟨e1, -⟩ | ⟨-, e2⟩⟩ | ⟨-, e2⟩
  · exact e1
  · exact absurd (e2 i hi) hh
  · exact absurd hz (e2 b hb)
theorem held_in {r b : Nat} {z y : Int32} (e : qHeld P r z y) (hn : ¬ y = -2001) (hz : z = nI b) (hB : pnB P r ≤ 12) (hb : b < 2 ^ 31) : b < pnB P r := by
  rcases e with ⟨⟨c, e1, e2⟩, -⟩ | ⟨e1, -⟩
  · have : b = c := (nI_eq hb (by omega)).mp (hz.symm.trans e1)
    omega
  · exact absurd e1 hn
theorem held_out {r b : Nat} {z y : Int32} (e : qHeld P r z y) (hn : y = -2001) (hz : z = nI b) : pnB P r ≤ b := by
  rcases e with ⟨-, ⟨e1, -⟩ | ⟨e1, -⟩⟩ | ⟨-, e2⟩
  · rw [e1] at hn; exact absurd hn (by decide)
  · rw [e1] at hn; exact absurd hn (by decide)
  · exact Nat.le_of_not_lt (fun e => e2 b e hz)
/-- how many of the first n trains are in the block j -/
def cntB (P : gP) (r n j : Nat) : Nat := sumN n (fun t => if pI P 5 r t 3 = nI j then 1 else 0)
theorem cntB_s {r n j : Nat} : cntB P r (n + 1) j = cntB P r n j + if pI P 5 r n 3 = nI j then 1 else 0 := rfl
theorem cntB_none {r n j : Nat} (h : ∀ t, t < n → pI P 5 r t 3 ≠ nI j) : cntB P r n j = 0 := by
  unfold cntB
  rw [sumN_ext (g := fun _ => 0) (fun t ht => if_neg (h t ht)), sumN_zero]
theorem cntB_le1 (hB : inB P) {r j : Nat} (hr : r < pnR P) : ∀ {n : Nat}, n ≤ pnT P r → cntB P r n j ≤ 1
  | 0, _ => by show 0 ≤ 1; omega
  | n + 1, hn => by
    rw [cntB_s]
    by_cases e : pI P 5 r n 3 = nI j
    · rw [if_pos e, cntB_none (fun t ht e2 => hB.apart hr (i := n) (j := t) (by omega) (by omega) (by omega) (e.trans e2.symm))]
      omega
    · rw [if_neg e]
      exact cntB_le1 hB hr (by omega)
theorem cntB_all (hB : inB P) {r k : Nat} (hr : r < pnR P) (hk : pnB P r ≤ k) (h12 : k ≤ 12) : sumN k (fun j => cntB P r (pnT P r) j) = pnT P r := by
  unfold cntB
  rw [sumN_swap (fun j t => if pI P 5 r t 3 = nI j then 1 else 0) (pnT P r) k, sumN_ext (g := fun _ => 1) (fun t ht => ?_), sumN_one]
  obtain ⟨b, hbn, hb, -, -⟩ := (hB.2 r hr).2.2.2.2.1 t ht
  refine Eq.trans (sumN_ext (g := fun g => if b = g then 1 else 0) (fun j hj => ?_)) (sumN_ite (n := k) (a := b) (by omega))
  show (if pI P 5 r t 3 = nI j then 1 else 0) = if b = j then 1 else 0
  rw [hb]
  by_cases e : b = j
  · rw [if_pos e, if_pos (by rw [e])]
  · rw [if_neg e, if_neg (fun e2 => e ((nI_eq (by omega) (by omega)).mp e2))]
theorem bit_eq {b k : Nat} (hb : b < 12) (hk : k < 12) (h : ¬ ((1 : Int32) <<< (nI b &&& 31)) &&& (1 <<< (nI k &&& 31)) = 0) : b = k := (by decide +kernel : ∀ b, b < 12 → ∀ k, k < 12 → ¬ ((1 : Int32) <<< (nI b &&& 31)) &&& (1 <<< (nI k &&& 31)) = 0 → b = k) b hb k hk h
/-- if all stand, a block is held if, and only if, one stands there -/
theorem held_all (hB : inB P) {r k : Nat} {z y : Int32} (hr : r < pnR P) (hs : ∀ i, i < pnT P r → pI P 5 r i 5 = 115) (e : qHeld P r z y) (hz : z = nI k) (hk : k < pnB P r) : y = nI (cntB P r (pnT P r) k) := by
  have h12 := (hB.2 r hr).1.1
  have hst : ∀ i, i < pnT P r → ∃ b, b < 12 ∧ pI P 5 r i 3 = nI b ∧ pI P 5 r i 6 = 1 <<< (nI b &&& 31) := fun i hi => by
    obtain ⟨b, hbn, hb, -, hc⟩ := (hB.2 r hr).2.2.2.2.1 i hi
    rcases hc with hc | ⟨hc, -⟩
    · exact ⟨b, by omega, hb, hc.2.2.1⟩
    · rcases hc with e | e <;> exact absurd ((hs i hi).symm.trans e) (by decide)
  rcases e with ⟨-, ⟨e1, i, hi, e2⟩ | ⟨e1, e2⟩⟩ | ⟨-, e2⟩
  · obtain ⟨b, hb12, hb, h6⟩ := hst i hi
    rw [h6, hz] at e2
    have hbk := bit_eq hb12 (by omega) e2
    subst hbk
    have h1 := cntB_le1 hB (r := r) (j := b) hr (Nat.le_refl _)
    have h2 := sumN_ge (f := fun t => if pI P 5 r t 3 = nI b then 1 else 0) hi
    simp only [hb, if_pos] at h2
    have : cntB P r (pnT P r) b = 1 := by unfold cntB at h1 ⊢; omega
    rw [this, e1]; rfl
  · rw [e1, cntB_none (fun i hi e3 => ?_)]
    · rfl
    · obtain ⟨b, hb12, hb, h6⟩ := hst i hi
      have hbk : b = k := (nI_eq (by omega) (by omega)).mp (hb.symm.trans e3)
      subst hbk
      have := e2 i hi
      rw [h6, hz] at this
      exact bit_self hb12 this
  · exact absurd hz (e2 k hk)
theorem cnt_put {r i b : Nat} {f : Nat → Int32} {x : Int32} (hb12 : b < 12) (hb : pI P 5 r i 3 = nI b) (hf : ∀ j, j < 12 → f j = nI (cntB P r i j)) (hx : x = f b + 1) : ∀ j, j < 12 → upd f b x j = nI (cntB P r (i + 1) j) := fun j hj => by
  unfold upd
  rw [cntB_s]
  by_cases e : j = b
  · subst e
    rw [if_pos rfl, if_pos hb, hx, hf j hj, nI_1]
  · rw [if_neg e, if_neg (fun e2 => e ((nI_eq (by omega) (by omega)).mp (hb.symm.trans e2)).symm), hf j hj]
    rfl
theorem st_e {r i b : Nat} (hc : (pI P 5 r i 5 = 115 ∧ fStop P r b = true ∧ pI P 5 r i 6 = 1 <<< (nI b &&& 31) ∧ pI P 5 r i 4 = 0 ∧ (b = 0 → pI P 5 r i 2 = 0)) ∨ ((pI P 5 r i 5 = 109 ∨ pI P 5 r i 5 = 120) ∧ onWay P r b (pI P 5 r i 6))) (h : pI P 5 r i 5 = 115) : pI P 5 r i 4 = 0 := by
  rcases hc with hc | ⟨hc, -⟩
  · exact hc.2.2.2.1
  · rcases hc with e | e <;> exact absurd (h.symm.trans e) (by decide)
theorem st_r {r i b : Nat} (hc : (pI P 5 r i 5 = 115 ∧ fStop P r b = true ∧ pI P 5 r i 6 = 1 <<< (nI b &&& 31) ∧ pI P 5 r i 4 = 0 ∧ (b = 0 → pI P 5 r i 2 = 0)) ∨ ((pI P 5 r i 5 = 109 ∨ pI P 5 r i 5 = 120) ∧ onWay P r b (pI P 5 r i 6))) (h : pI P 5 r i 5 = 115) (hb : b < 12) (h0 : nI b = 0) : pI P 5 r i 2 = 0 := by
  rcases hc with hc | ⟨hc, -⟩
  · exact hc.2.2.2.2 ((nI0_iff hb).mp h0)
  · rcases hc with e | e <;> exact absurd (h.symm.trans e) (by decide)
set_option maxHeartbeats 4000000 in
set_option maxRecDepth 100000 in
theorem c_L_areTrainsApart (G : gG Z) (hL : LR Z a P h) (hJ : LJ B O t P) {x : Int32} {r : Nat} (hx : x = nI r) (hr : r < 2) : gMet Z yL_areTrainsApart cL_areTrainsApart 8 (some .boolean) 12 120 700 [.ref a, .int x] h (qP Z a (fun y P2 => LJ B O t P2 ∧ y = 1)) qN := by
  refine g_enter (lv := [(0, .ref a), (1, .int x)]) G.2 (by decide +kernel) (Nat.le_of_ble_eq_true rfl) rfl (fun Γ X Nt E RM => ?_)
  have hr' := hJ.r hr
  have hRd := hJ.inv.1.2 r hr'
  have hT4 := hRd.1.2.1
  have hB12 := hRd.1.1
  refine g_bipush (v := 12) X dL_areTrainsApart_0 (by decide) ?_
  refine gw_newi (N := 12) X G.t1 (by decide) rfl (by decide) (by rw [RM]; show 0 + 1 ≤ 120; omega) (by rw [RM]; show 0 + 12 ≤ 700; omega) dL_areTrainsApart_2 (fun q h1 hq0 hq hx0 => ?_)
  have hxt : ∀ b x, h b = some x → h1 b = some x := fun b c hb => by rw [hx0 b (hq0.ne hb)]; exact hb
  have L3 : ∀ (m : Nat) (k kk nn : Nat) (x7 x6 x5 x3 : Int32) (f : Nat → Int32) (h1 : gH) (hxt : ∀ b x, h b = some x → h1 b = some x) (hq : h1 q = some (.inl (Z.2.2.2.1 1, 12, .inl f))) (hm : m + k = 12) (hkn : kk + m * 2 ≤ 110 ∧ nn + m * 12 ≤ 690) (h7 : x7 = nI k) (h3 : x3 = nI (pnT P r)) (hf : ∀ j, j < 12 → f j = nI (cntB P r (pnT P r) j)) (h6 : x6 = 0 ∨ ((∀ i, i < pnT P r → pI P 5 r i 5 = 115) ∧ x5 = nI (sumN k (fun j => cntB P r (pnT P r) j)))), GJ Z Γ h1 kk nn 174 [(7, .int x7), (6, .int x6), (5, .int x5), (4, .int 1), (3, .int x3), (2, .ref q), (1, .int x), (0, .ref a)] [] := by
    intro m
    induction m with
    | zero =>
      intro k kk nn x7 x6 x5 x3 f h1 hxt hq hm hkn h7 h3 hf h6
      refine g_iload X dL_areTrainsApart_174 rfl ?_
      refine g_bipush (v := 12) X dL_areTrainsApart_176 (by decide) ?_
      refine g_icmp_ge 236 X dL_areTrainsApart_178 (by decide) (fun c178 => ?_) (fun c178 => ?_)
      · skip
        refine g_iload X dL_areTrainsApart_236 rfl ?_
        refine g_if_eq 256 X dL_areTrainsApart_238 (by decide) (fun c238 => ?_) (fun c238 => ?_)
        · skip
          exact absurd c238 (by decide)
        · skip
          refine g_iload X dL_areTrainsApart_241 rfl ?_
          refine g_if_eq 252 X dL_areTrainsApart_243 (by decide) (fun c243 => ?_) (fun c243 => ?_)
          · skip
            refine g_iconst (v := 1) X dL_areTrainsApart_252 (by decide) ?_
            refine g_goto 257 X dL_areTrainsApart_253 (by decide) ?_
            refine g_ireturn X E (by decide) dL_areTrainsApart_257 (by omega) (by omega) ?_
            exact ⟨_, rfl, P, hL.ext hxt, hJ, rfl⟩
          · skip
            refine g_iload X dL_areTrainsApart_246 rfl ?_
            refine g_iload_n X dL_areTrainsApart_248 rfl ?_
            refine g_icmp_ne 256 X dL_areTrainsApart_249 (by decide) (fun c249 => ?_) (fun c249 => ?_)
            · skip
              exact absurd (by rw [(h6.resolve_left c243).2, h3, cntB_all hJ.inv.1 hr' (by omega) (by omega)]) c249
            · skip
              refine g_iconst (v := 1) X dL_areTrainsApart_252 (by decide) ?_
              refine g_goto 257 X dL_areTrainsApart_253 (by decide) ?_
              refine g_ireturn X E (by decide) dL_areTrainsApart_257 (by omega) (by omega) ?_
              exact ⟨_, rfl, P, hL.ext hxt, hJ, rfl⟩
      · skip
        exact absurd c178 (by rw [h7]; exact nI_nlt (b := 12) (by omega) (by omega))
    | succ m ih =>
      intro k kk nn x7 x6 x5 x3 f h1 hxt hq hm hkn h7 h3 hf h6
      refine g_iload X dL_areTrainsApart_174 rfl ?_
      refine g_bipush (v := 12) X dL_areTrainsApart_176 (by decide) ?_
      refine g_icmp_ge 236 X dL_areTrainsApart_178 (by decide) (fun c178 => ?_) (fun c178 => ?_)
      · skip
        exact absurd (by rw [h7]; exact nI_lt (b := 12) (by omega) (by omega)) c178
      · skip
        refine g_aload_n X dL_areTrainsApart_181 rfl ?_
        refine g_bipush (v := 32) X dL_areTrainsApart_182 (by decide) ?_
        refine g_iload_n X dL_areTrainsApart_184 rfl ?_
        refine g_iload X dL_areTrainsApart_185 rfl ?_
        refine g_callS X lm_L_179 (a_32 G (hL.ext hxt) hJ.inv (r := r) hx (hJ.r hr)) rfl rfl (Nat.le_of_ble_eq_true rfl) (by rw [RM]; exact ⟨Nat.le_of_ble_eq_true rfl, Nat.le_of_ble_eq_true rfl⟩) (by rw [RM]; show _ + _ ≤ 120 ∧ _ + _ ≤ 700; omega) dL_areTrainsApart_187 (fun v hz q => ?_) (fun _ _ q => q.elim)
        obtain ⟨x187, rfl, e187, rfl⟩ := q
        refine GJ.seq (st' := [.int x187]) rfl ?_
        have e187q : qHeld P r x7 x187 := e187
        refine g_sipush (v := (-2001)) X dL_areTrainsApart_190 (by decide) ?_
        refine g_icmp_eq 236 X dL_areTrainsApart_193 (by decide) (fun c193 => ?_) (fun c193 => ?_)
        · skip
          have hko : pnB P r ≤ k := held_out e187q c193 h7
          refine g_iload X dL_areTrainsApart_236 rfl ?_
          refine g_if_eq 256 X dL_areTrainsApart_238 (by decide) (fun c238 => ?_) (fun c238 => ?_)
          · skip
            exact absurd c238 (by decide)
          · skip
            refine g_iload X dL_areTrainsApart_241 rfl ?_
            refine g_if_eq 252 X dL_areTrainsApart_243 (by decide) (fun c243 => ?_) (fun c243 => ?_)
            · skip
              refine g_iconst (v := 1) X dL_areTrainsApart_252 (by decide) ?_
              refine g_goto 257 X dL_areTrainsApart_253 (by decide) ?_
              refine g_ireturn X E (by decide) dL_areTrainsApart_257 (by omega) (by omega) ?_
              exact ⟨_, rfl, P, hL.ext hxt, hJ, rfl⟩
            · skip
              refine g_iload X dL_areTrainsApart_246 rfl ?_
              refine g_iload_n X dL_areTrainsApart_248 rfl ?_
              refine g_icmp_ne 256 X dL_areTrainsApart_249 (by decide) (fun c249 => ?_) (fun c249 => ?_)
              · skip
                exact absurd (by rw [(h6.resolve_left c243).2, h3, cntB_all hJ.inv.1 hr' hko (by omega)]) c249
              · skip
                refine g_iconst (v := 1) X dL_areTrainsApart_252 (by decide) ?_
                refine g_goto 257 X dL_areTrainsApart_253 (by decide) ?_
                refine g_ireturn X E (by decide) dL_areTrainsApart_257 (by omega) (by omega) ?_
                exact ⟨_, rfl, P, hL.ext hxt, hJ, rfl⟩
        · skip
          have hki : k < pnB P r := held_in e187q c193 h7 hB12 (by omega)
          refine g_iload X dL_areTrainsApart_196 rfl ?_
          refine g_aload_n X dL_areTrainsApart_198 rfl ?_
          refine g_bipush (v := 32) X dL_areTrainsApart_199 (by decide) ?_
          refine g_iload_n X dL_areTrainsApart_201 rfl ?_
          refine g_iload X dL_areTrainsApart_202 rfl ?_
          refine g_callS X lm_L_179 (a_32 G (hL.ext hxt) hJ.inv (r := r) hx (hJ.r hr)) rfl rfl (Nat.le_of_ble_eq_true rfl) (by rw [RM]; exact ⟨Nat.le_of_ble_eq_true rfl, Nat.le_of_ble_eq_true rfl⟩) (by rw [RM]; show _ + _ ≤ 120 ∧ _ + _ ≤ 700; omega) dL_areTrainsApart_204 (fun v hz q => ?_) (fun _ _ q => q.elim)
          obtain ⟨x204, rfl, e204, rfl⟩ := q
          refine GJ.seq (st' := [.int x204, .int x5]) rfl ?_
          have e204q : qHeld P r x7 x204 := e204
          refine g_iadd X dL_areTrainsApart_207 (fun x207 e207 => ?_)
          refine g_istore (lv' := [(5, .int x207), (7, .int x7), (6, .int x6), (4, .int 1), (3, .int x3), (2, .ref q), (1, .int x), (0, .ref a)]) X dL_areTrainsApart_208 (by decide) rfl ?_
          refine g_iload X dL_areTrainsApart_210 rfl ?_
          refine g_if_eq 227 X dL_areTrainsApart_212 (by decide) (fun c212 => ?_) (fun c212 => ?_)
          · skip
            exact absurd c212 (by decide)
          · skip
            refine g_aload_n X dL_areTrainsApart_215 rfl ?_
            refine g_iload X dL_areTrainsApart_216 rfl ?_
            refine gw_iald (j := k) X G.t1 hq h7 (by omega) (by decide) dL_areTrainsApart_218 (fun x218 e218 => ?_)
            refine g_iconst (v := 1) X dL_areTrainsApart_219 (by decide) ?_
            refine g_icmp_gt 227 X dL_areTrainsApart_220 (by decide) (fun c220 => ?_) (fun c220 => ?_)
            · skip
              exact absurd c220 (by rw [e218, hf k (by omega)]; exact nI_nlt (a := 1) (cntB_le1 hJ.inv.1 hr' (Nat.le_refl _)) (by omega))
            · skip
              refine g_iconst (v := 1) X dL_areTrainsApart_223 (by decide) ?_
              refine g_goto 228 X dL_areTrainsApart_224 (by decide) ?_
              refine g_istore (lv' := [(4, .int 1), (5, .int x207), (7, .int x7), (6, .int x6), (3, .int x3), (2, .ref q), (1, .int x), (0, .ref a)]) X dL_areTrainsApart_228 (by decide) rfl ?_
              refine gp_iinc 2 X dL_areTrainsApart_230 rfl (by decide) (fun x230 e230 => ?_)
              refine GJ.leq (lv' := [(7, .int x230), (4, .int 1), (5, .int x207), (6, .int x6), (3, .int x3), (2, .ref q), (1, .int x), (0, .ref a)]) rfl ?_
              refine g_goto 174 X dL_areTrainsApart_233 (by decide) ?_
              refine GJ.pick [0, 3, 2, 1, 4, 5, 6, 7] rfl ?_
              exact ih (k + 1) _ _ x230 x6 x207 x3 f _ hxt hq (by omega) (by omega) (by rw [e230, h7]; exact nI_1 k) h3 hf (h6.imp (fun e => e) (fun e => ⟨e.1, by rw [e207, e.2, held_all hJ.inv.1 hr' e.1 e204q h7 hki, nI_add]; rfl⟩))
  have L2 : ∀ (m : Nat) (k kk nn : Nat) (x7 x6 x3 : Int32) (f : Nat → Int32) (h1 : gH) (hxt : ∀ b x, h b = some x → h1 b = some x) (hq : h1 q = some (.inl (Z.2.2.2.1 1, 12, .inl f))) (hm : m + k = pnT P r) (hkn : kk + m * 1 ≤ 60 ∧ nn + m * 6 ≤ 400) (h7 : x7 = nI k) (h3 : x3 = nI (pnT P r)) (hf : ∀ j, j < 12 → f j = nI (cntB P r (pnT P r) j)) (h6 : x6 = 0 ∨ ∀ i, i < k → pI P 5 r i 5 = 115), GJ Z Γ h1 kk nn 133 [(7, .int x7), (6, .int x6), (5, .int 0), (4, .int 1), (3, .int x3), (2, .ref q), (1, .int x), (0, .ref a)] [] := by
    intro m
    induction m with
    | zero =>
      intro k kk nn x7 x6 x3 f h1 hxt hq hm hkn h7 h3 hf h6
      refine g_iload X dL_areTrainsApart_133 rfl ?_
      refine g_iload_n X dL_areTrainsApart_135 rfl ?_
      refine g_icmp_ge 171 X dL_areTrainsApart_136 (by decide) (fun c136 => ?_) (fun c136 => ?_)
      · skip
        refine g_iconst (v := 0) X dL_areTrainsApart_171 (by decide) ?_
        refine g_istore (lv' := [(7, .int 0), (6, .int x6), (5, .int 0), (4, .int 1), (3, .int x3), (2, .ref q), (1, .int x), (0, .ref a)]) X dL_areTrainsApart_172 (by decide) rfl ?_
        exact L3 12 0 _ _ 0 x6 0 x3 f _ hxt hq rfl (by omega) rfl h3 hf (h6.imp (fun e => e) (fun e => ⟨fun i hi => e i (by omega), rfl⟩))
      · skip
        exact absurd c136 (by rw [h7, h3]; exact nI_nlt (by omega) (by omega))
    | succ m ih =>
      intro k kk nn x7 x6 x3 f h1 hxt hq hm hkn h7 h3 hf h6
      refine g_iload X dL_areTrainsApart_133 rfl ?_
      refine g_iload_n X dL_areTrainsApart_135 rfl ?_
      refine g_icmp_ge 171 X dL_areTrainsApart_136 (by decide) (fun c136 => ?_) (fun c136 => ?_)
      · skip
        exact absurd (by rw [h7, h3]; exact nI_lt (by omega) (by omega)) c136
      · skip
        refine g_iload X dL_areTrainsApart_139 rfl ?_
        refine g_if_eq 162 X dL_areTrainsApart_141 (by decide) (fun c141 => ?_) (fun c141 => ?_)
        · skip
          refine g_iconst (v := 0) X dL_areTrainsApart_162 (by decide) ?_
          refine g_istore (lv' := [(6, .int 0), (7, .int x7), (5, .int 0), (4, .int 1), (3, .int x3), (2, .ref q), (1, .int x), (0, .ref a)]) X dL_areTrainsApart_163 (by decide) rfl ?_
          refine gp_iinc 1 X dL_areTrainsApart_165 rfl (by decide) (fun x165 e165 => ?_)
          refine GJ.leq (lv' := [(7, .int x165), (6, .int 0), (5, .int 0), (4, .int 1), (3, .int x3), (2, .ref q), (1, .int x), (0, .ref a)]) rfl ?_
          refine g_goto 133 X dL_areTrainsApart_168 (by decide) ?_
          exact ih (k + 1) _ _ x165 0 x3 f _ hxt hq (by omega) (by omega) (by rw [e165, h7]; exact nI_1 k) h3 hf (Or.inl rfl)
        · skip
          refine g_aload_n X dL_areTrainsApart_144 rfl ?_
          refine g_bipush (v := 37) X dL_areTrainsApart_145 (by decide) ?_
          refine g_iload_n X dL_areTrainsApart_147 rfl ?_
          refine g_iload X dL_areTrainsApart_148 rfl ?_
          refine g_callS X lm_L_179 (a_37 G (hL.ext hxt) hJ.inv (r := r) hx (hJ.r hr)) rfl rfl (Nat.le_of_ble_eq_true rfl) (by rw [RM]; exact ⟨Nat.le_of_ble_eq_true rfl, Nat.le_of_ble_eq_true rfl⟩) (by rw [RM]; show _ + _ ≤ 120 ∧ _ + _ ≤ 700; omega) dL_areTrainsApart_150 (fun v hz q => ?_) (fun _ _ q => q.elim)
          obtain ⟨x150, rfl, e150, rfl⟩ := q
          refine GJ.seq (st' := [.int x150]) rfl ?_
          replace e150 := tr_at e150 h7 (by omega) hT4
          refine g_bipush (v := 115) X dL_areTrainsApart_153 (by decide) ?_
          refine g_icmp_ne 162 X dL_areTrainsApart_155 (by decide) (fun c155 => ?_) (fun c155 => ?_)
          · skip
            refine g_iconst (v := 0) X dL_areTrainsApart_162 (by decide) ?_
            refine g_istore (lv' := [(6, .int 0), (7, .int x7), (5, .int 0), (4, .int 1), (3, .int x3), (2, .ref q), (1, .int x), (0, .ref a)]) X dL_areTrainsApart_163 (by decide) rfl ?_
            refine gp_iinc 1 X dL_areTrainsApart_165 rfl (by decide) (fun x165 e165 => ?_)
            refine GJ.leq (lv' := [(7, .int x165), (6, .int 0), (5, .int 0), (4, .int 1), (3, .int x3), (2, .ref q), (1, .int x), (0, .ref a)]) rfl ?_
            refine g_goto 133 X dL_areTrainsApart_168 (by decide) ?_
            exact ih (k + 1) _ _ x165 0 x3 f _ hxt hq (by omega) (by omega) (by rw [e165, h7]; exact nI_1 k) h3 hf (Or.inl rfl)
          · skip
            refine g_iconst (v := 1) X dL_areTrainsApart_158 (by decide) ?_
            refine g_goto 163 X dL_areTrainsApart_159 (by decide) ?_
            refine g_istore (lv' := [(6, .int 1), (7, .int x7), (5, .int 0), (4, .int 1), (3, .int x3), (2, .ref q), (1, .int x), (0, .ref a)]) X dL_areTrainsApart_163 (by decide) rfl ?_
            refine gp_iinc 1 X dL_areTrainsApart_165 rfl (by decide) (fun x165 e165 => ?_)
            refine GJ.leq (lv' := [(7, .int x165), (6, .int 1), (5, .int 0), (4, .int 1), (3, .int x3), (2, .ref q), (1, .int x), (0, .ref a)]) rfl ?_
            refine g_goto 133 X dL_areTrainsApart_168 (by decide) ?_
            exact ih (k + 1) _ _ x165 1 x3 f _ hxt hq (by omega) (by omega) (by rw [e165, h7]; exact nI_1 k) h3 hf (Or.inr (fun i hi => by rcases Nat.lt_succ_iff_lt_or_eq.mp hi with hi | rfl; exact (h6.resolve_left c141) i hi; exact e150.symm.trans c155))
  have L1 : ∀ (m : Nat) (i kk nn : Nat) (x3 : Int32) (f : Nat → Int32) (h1 : gH) (hxt : ∀ b x, h b = some x → h1 b = some x) (hq : h1 q = some (.inl (Z.2.2.2.1 1, 12, .inl f))) (hm : m + i = pnT P r) (hkn : kk + m * 6 ≤ 40 ∧ nn + m * 36 ≤ 300) (h3 : x3 = nI i) (hf : ∀ j, j < 12 → f j = nI (cntB P r i j)), GJ Z Γ h1 kk nn 10 [(4, .int 1), (3, .int x3), (2, .ref q), (1, .int x), (0, .ref a)] [] := by
    intro m
    induction m with
    | zero =>
      intro i kk nn x3 f h1 hxt hq hm hkn h3 hf
      have hi : i = pnT P r := by omega
      refine g_aload_n X dL_areTrainsApart_10 rfl ?_
      refine g_bipush (v := 35) X dL_areTrainsApart_11 (by decide) ?_
      refine g_iload_n X dL_areTrainsApart_13 rfl ?_
      refine g_iload_n X dL_areTrainsApart_14 rfl ?_
      refine g_callS X lm_L_179 (a_35 G (hL.ext hxt) hJ.inv (r := r) hx (hJ.r hr)) rfl rfl (Nat.le_of_ble_eq_true rfl) (by rw [RM]; exact ⟨Nat.le_of_ble_eq_true rfl, Nat.le_of_ble_eq_true rfl⟩) (by rw [RM]; show _ + _ ≤ 120 ∧ _ + _ ≤ 700; omega) dL_areTrainsApart_15 (fun v hz q => ?_) (fun _ _ q => q.elim)
      obtain ⟨x15, rfl, e15, rfl⟩ := q
      refine GJ.seq (st' := [.int x15]) rfl ?_
      replace e15 := tr_end e15 (by rw [h3, hi]) hT4
      refine g_sipush (v := (-2001)) X dL_areTrainsApart_18 (by decide) ?_
      refine g_icmp_eq 124 X dL_areTrainsApart_21 (by decide) (fun c21 => ?_) (fun c21 => ?_)
      · skip
        refine g_iconst (v := 0) X dL_areTrainsApart_124 (by decide) ?_
        refine g_istore (lv' := [(5, .int 0), (4, .int 1), (3, .int x3), (2, .ref q), (1, .int x), (0, .ref a)]) X dL_areTrainsApart_125 (by decide) rfl ?_
        refine g_iconst (v := 1) X dL_areTrainsApart_127 (by decide) ?_
        refine g_istore (lv' := [(6, .int 1), (5, .int 0), (4, .int 1), (3, .int x3), (2, .ref q), (1, .int x), (0, .ref a)]) X dL_areTrainsApart_128 (by decide) rfl ?_
        refine g_iconst (v := 0) X dL_areTrainsApart_130 (by decide) ?_
        refine g_istore (lv' := [(7, .int 0), (6, .int 1), (5, .int 0), (4, .int 1), (3, .int x3), (2, .ref q), (1, .int x), (0, .ref a)]) X dL_areTrainsApart_131 (by decide) rfl ?_
        exact L2 (pnT P r) 0 _ _ 0 1 x3 f _ hxt hq (by omega) (by omega) rfl (by rw [h3, hi]) (by rw [← hi]; exact hf) (Or.inr (fun i hi => absurd hi (Nat.not_lt_zero _)))
      · skip
        exact absurd e15 c21
    | succ m ih =>
      intro i kk nn x3 f h1 hxt hq hm hkn h3 hf
      have hi : i < pnT P r := by omega
      obtain ⟨b, hbn, hb, hse, hcase⟩ := hRd.2.2.2.2.1 i hi
      have hld := (hJ.inv.1.holds r hr' i hi).1
      refine g_aload_n X dL_areTrainsApart_10 rfl ?_
      refine g_bipush (v := 35) X dL_areTrainsApart_11 (by decide) ?_
      refine g_iload_n X dL_areTrainsApart_13 rfl ?_
      refine g_iload_n X dL_areTrainsApart_14 rfl ?_
      refine g_callS X lm_L_179 (a_35 G (hL.ext hxt) hJ.inv (r := r) hx (hJ.r hr)) rfl rfl (Nat.le_of_ble_eq_true rfl) (by rw [RM]; exact ⟨Nat.le_of_ble_eq_true rfl, Nat.le_of_ble_eq_true rfl⟩) (by rw [RM]; show _ + _ ≤ 120 ∧ _ + _ ≤ 700; omega) dL_areTrainsApart_15 (fun v hz q => ?_) (fun _ _ q => q.elim)
      obtain ⟨x15, rfl, e15, rfl⟩ := q
      refine GJ.seq (st' := [.int x15]) rfl ?_
      replace e15 := tr_at e15 h3 hi hT4
      refine g_sipush (v := (-2001)) X dL_areTrainsApart_18 (by decide) ?_
      refine g_icmp_eq 124 X dL_areTrainsApart_21 (by decide) (fun c21 => ?_) (fun c21 => ?_)
      · skip
        exact absurd (hb.symm.trans (e15.symm.trans c21)) (ne_idx (by omega))
      · skip
        refine g_aload_n X dL_areTrainsApart_24 rfl ?_
        refine g_bipush (v := 35) X dL_areTrainsApart_25 (by decide) ?_
        refine g_iload_n X dL_areTrainsApart_27 rfl ?_
        refine g_iload_n X dL_areTrainsApart_28 rfl ?_
        refine g_callS X lm_L_179 (a_35 G (hL.ext hxt) hJ.inv (r := r) hx (hJ.r hr)) rfl rfl (Nat.le_of_ble_eq_true rfl) (by rw [RM]; exact ⟨Nat.le_of_ble_eq_true rfl, Nat.le_of_ble_eq_true rfl⟩) (by rw [RM]; show _ + _ ≤ 120 ∧ _ + _ ≤ 700; omega) dL_areTrainsApart_29 (fun v hz q => ?_) (fun _ _ q => q.elim)
        obtain ⟨x29, rfl, e29, rfl⟩ := q
        refine GJ.seq (st' := [.int x29]) rfl ?_
        replace e29 := tr_at e29 h3 hi hT4
        refine g_istore (lv' := [(5, .int x29), (4, .int 1), (3, .int x3), (2, .ref q), (1, .int x), (0, .ref a)]) X dL_areTrainsApart_32 (by decide) rfl ?_
        refine g_aload_n X dL_areTrainsApart_34 rfl ?_
        refine g_iload X dL_areTrainsApart_35 rfl ?_
        refine g_dup2 X dL_areTrainsApart_37 rfl rfl ?_
        refine gw_iald (j := b) X G.t1 hq (e29.trans hb) (by omega) (by decide) dL_areTrainsApart_38 (fun x38 e38 => ?_)
        refine g_iconst (v := 1) X dL_areTrainsApart_39 (by decide) ?_
        refine g_iadd X dL_areTrainsApart_40 (fun x40 e40 => ?_)
        refine gw_iast (j := b) X G.t1 hq (e29.trans hb) (by omega) (by decide) dL_areTrainsApart_41 (fun h2 hq hx2 => ?_)
        replace hxt : ∀ b x, h b = some x → h2 b = some x := fun b c hb => by rw [hx2 b (hq0.ne hb)]; exact hxt b c hb
        refine g_aload_n X dL_areTrainsApart_42 rfl ?_
        refine g_bipush (v := 37) X dL_areTrainsApart_43 (by decide) ?_
        refine g_iload_n X dL_areTrainsApart_45 rfl ?_
        refine g_iload_n X dL_areTrainsApart_46 rfl ?_
        refine g_callS X lm_L_179 (a_37 G (hL.ext hxt) hJ.inv (r := r) hx (hJ.r hr)) rfl rfl (Nat.le_of_ble_eq_true rfl) (by rw [RM]; exact ⟨Nat.le_of_ble_eq_true rfl, Nat.le_of_ble_eq_true rfl⟩) (by rw [RM]; show _ + _ ≤ 120 ∧ _ + _ ≤ 700; omega) dL_areTrainsApart_47 (fun v hz q => ?_) (fun _ _ q => q.elim)
        obtain ⟨x47, rfl, e47, rfl⟩ := q
        refine GJ.seq (st' := [.int x47]) rfl ?_
        replace e47 := tr_at e47 h3 hi hT4
        refine g_istore (lv' := [(6, .int x47), (5, .int x29), (4, .int 1), (3, .int x3), (2, .ref q), (1, .int x), (0, .ref a)]) X dL_areTrainsApart_50 (by decide) rfl ?_
        refine g_iload X dL_areTrainsApart_52 rfl ?_
        refine g_if_eq 115 X dL_areTrainsApart_54 (by decide) (fun c54 => ?_) (fun c54 => ?_)
        · skip
          exact absurd c54 (by decide)
        · skip
          refine g_aload_n X dL_areTrainsApart_57 rfl ?_
          refine g_bipush (v := 32) X dL_areTrainsApart_58 (by decide) ?_
          refine g_iload_n X dL_areTrainsApart_60 rfl ?_
          refine g_iload X dL_areTrainsApart_61 rfl ?_
          refine g_callS X lm_L_179 (a_32 G (hL.ext hxt) hJ.inv (r := r) hx (hJ.r hr)) rfl rfl (Nat.le_of_ble_eq_true rfl) (by rw [RM]; exact ⟨Nat.le_of_ble_eq_true rfl, Nat.le_of_ble_eq_true rfl⟩) (by rw [RM]; show _ + _ ≤ 120 ∧ _ + _ ≤ 700; omega) dL_areTrainsApart_63 (fun v hz q => ?_) (fun _ _ q => q.elim)
          obtain ⟨x63, rfl, e63, rfl⟩ := q
          refine GJ.seq (st' := [.int x63]) rfl ?_
          replace e63 : x63 = 1 := held_1 (b := b) (show qHeld P r x29 x63 from e63) hi (by rw [e29]; exact hld) (e29.trans hb) hbn
          refine g_iconst (v := 1) X dL_areTrainsApart_66 (by decide) ?_
          refine g_icmp_ne 115 X dL_areTrainsApart_67 (by decide) (fun c67 => ?_) (fun c67 => ?_)
          · skip
            exact absurd e63 c67
          · skip
            refine g_iload X dL_areTrainsApart_70 rfl ?_
            refine g_bipush (v := 115) X dL_areTrainsApart_72 (by decide) ?_
            refine g_icmp_ne 88 X dL_areTrainsApart_74 (by decide) (fun c74 => ?_) (fun c74 => ?_)
            · skip
              refine g_iload X dL_areTrainsApart_88 rfl ?_
              refine g_bipush (v := 115) X dL_areTrainsApart_90 (by decide) ?_
              refine g_icmp_ne 111 X dL_areTrainsApart_92 (by decide) (fun c92 => ?_) (fun c92 => ?_)
              · skip
                refine g_iconst (v := 1) X dL_areTrainsApart_111 (by decide) ?_
                refine g_goto 116 X dL_areTrainsApart_112 (by decide) ?_
                refine g_istore (lv' := [(4, .int 1), (6, .int x47), (5, .int x29), (3, .int x3), (2, .ref q), (1, .int x), (0, .ref a)]) X dL_areTrainsApart_116 (by decide) rfl ?_
                refine gp_iinc 3 X dL_areTrainsApart_118 rfl (by decide) (fun x118 e118 => ?_)
                refine GJ.leq (lv' := [(3, .int x118), (4, .int 1), (6, .int x47), (5, .int x29), (2, .ref q), (1, .int x), (0, .ref a)]) rfl ?_
                refine g_goto 10 X dL_areTrainsApart_121 (by decide) ?_
                refine GJ.pick [1, 0, 4, 5, 6] rfl ?_
                exact ih (i + 1) _ _ x118 _ _ hxt hq (by omega) (by omega) (by rw [e118, h3]; exact nI_1 i) (cnt_put (by omega) hb hf (by rw [e40, e38]))
              · skip
                refine g_iload X dL_areTrainsApart_95 rfl ?_
                refine g_if_ne 111 X dL_areTrainsApart_97 (by decide) (fun c97 => ?_) (fun c97 => ?_)
                · skip
                  refine g_iconst (v := 1) X dL_areTrainsApart_111 (by decide) ?_
                  refine g_goto 116 X dL_areTrainsApart_112 (by decide) ?_
                  refine g_istore (lv' := [(4, .int 1), (6, .int x47), (5, .int x29), (3, .int x3), (2, .ref q), (1, .int x), (0, .ref a)]) X dL_areTrainsApart_116 (by decide) rfl ?_
                  refine gp_iinc 3 X dL_areTrainsApart_118 rfl (by decide) (fun x118 e118 => ?_)
                  refine GJ.leq (lv' := [(3, .int x118), (4, .int 1), (6, .int x47), (5, .int x29), (2, .ref q), (1, .int x), (0, .ref a)]) rfl ?_
                  refine g_goto 10 X dL_areTrainsApart_121 (by decide) ?_
                  refine GJ.pick [1, 0, 4, 5, 6] rfl ?_
                  exact ih (i + 1) _ _ x118 _ _ hxt hq (by omega) (by omega) (by rw [e118, h3]; exact nI_1 i) (cnt_put (by omega) hb hf (by rw [e40, e38]))
                · skip
                  refine g_aload_n X dL_areTrainsApart_100 rfl ?_
                  refine g_bipush (v := 38) X dL_areTrainsApart_101 (by decide) ?_
                  refine g_iload_n X dL_areTrainsApart_103 rfl ?_
                  refine g_iload_n X dL_areTrainsApart_104 rfl ?_
                  refine g_callS X lm_L_179 (a_38 G (hL.ext hxt) hJ.inv (r := r) hx (hJ.r hr)) rfl rfl (Nat.le_of_ble_eq_true rfl) (by rw [RM]; exact ⟨Nat.le_of_ble_eq_true rfl, Nat.le_of_ble_eq_true rfl⟩) (by rw [RM]; show _ + _ ≤ 120 ∧ _ + _ ≤ 700; omega) dL_areTrainsApart_105 (fun v hz q => ?_) (fun _ _ q => q.elim)
                  obtain ⟨x105, rfl, e105, rfl⟩ := q
                  refine GJ.seq (st' := [.int x105]) rfl ?_
                  replace e105 := tr_at e105 h3 hi hT4
                  refine g_if_ne 115 X dL_areTrainsApart_108 (by decide) (fun c108 => ?_) (fun c108 => ?_)
                  · skip
                    exact absurd (e105.trans (st_r hcase (e47.symm.trans c92) (by omega) (hb.symm.trans (e29.symm.trans c97)))) c108
                  · skip
                    refine g_iconst (v := 1) X dL_areTrainsApart_111 (by decide) ?_
                    refine g_goto 116 X dL_areTrainsApart_112 (by decide) ?_
                    refine g_istore (lv' := [(4, .int 1), (6, .int x47), (5, .int x29), (3, .int x3), (2, .ref q), (1, .int x), (0, .ref a)]) X dL_areTrainsApart_116 (by decide) rfl ?_
                    refine gp_iinc 3 X dL_areTrainsApart_118 rfl (by decide) (fun x118 e118 => ?_)
                    refine GJ.leq (lv' := [(3, .int x118), (4, .int 1), (6, .int x47), (5, .int x29), (2, .ref q), (1, .int x), (0, .ref a)]) rfl ?_
                    refine g_goto 10 X dL_areTrainsApart_121 (by decide) ?_
                    refine GJ.pick [1, 0, 4, 5, 6] rfl ?_
                    exact ih (i + 1) _ _ x118 _ _ hxt hq (by omega) (by omega) (by rw [e118, h3]; exact nI_1 i) (cnt_put (by omega) hb hf (by rw [e40, e38]))
            · skip
              refine g_aload_n X dL_areTrainsApart_77 rfl ?_
              refine g_bipush (v := 36) X dL_areTrainsApart_78 (by decide) ?_
              refine g_iload_n X dL_areTrainsApart_80 rfl ?_
              refine g_iload_n X dL_areTrainsApart_81 rfl ?_
              refine g_callS X lm_L_179 (a_36 G (hL.ext hxt) hJ.inv (r := r) hx (hJ.r hr)) rfl rfl (Nat.le_of_ble_eq_true rfl) (by rw [RM]; exact ⟨Nat.le_of_ble_eq_true rfl, Nat.le_of_ble_eq_true rfl⟩) (by rw [RM]; show _ + _ ≤ 120 ∧ _ + _ ≤ 700; omega) dL_areTrainsApart_82 (fun v hz q => ?_) (fun _ _ q => q.elim)
              obtain ⟨x82, rfl, e82, rfl⟩ := q
              refine GJ.seq (st' := [.int x82]) rfl ?_
              replace e82 := tr_at e82 h3 hi hT4
              refine g_if_ne 115 X dL_areTrainsApart_85 (by decide) (fun c85 => ?_) (fun c85 => ?_)
              · skip
                exact absurd (e82.trans (st_e hcase (e47.symm.trans c74))) c85
              · skip
                refine g_iload X dL_areTrainsApart_88 rfl ?_
                refine g_bipush (v := 115) X dL_areTrainsApart_90 (by decide) ?_
                refine g_icmp_ne 111 X dL_areTrainsApart_92 (by decide) (fun c92 => ?_) (fun c92 => ?_)
                · skip
                  refine g_iconst (v := 1) X dL_areTrainsApart_111 (by decide) ?_
                  refine g_goto 116 X dL_areTrainsApart_112 (by decide) ?_
                  refine g_istore (lv' := [(4, .int 1), (6, .int x47), (5, .int x29), (3, .int x3), (2, .ref q), (1, .int x), (0, .ref a)]) X dL_areTrainsApart_116 (by decide) rfl ?_
                  refine gp_iinc 3 X dL_areTrainsApart_118 rfl (by decide) (fun x118 e118 => ?_)
                  refine GJ.leq (lv' := [(3, .int x118), (4, .int 1), (6, .int x47), (5, .int x29), (2, .ref q), (1, .int x), (0, .ref a)]) rfl ?_
                  refine g_goto 10 X dL_areTrainsApart_121 (by decide) ?_
                  refine GJ.pick [1, 0, 4, 5, 6] rfl ?_
                  exact ih (i + 1) _ _ x118 _ _ hxt hq (by omega) (by omega) (by rw [e118, h3]; exact nI_1 i) (cnt_put (by omega) hb hf (by rw [e40, e38]))
                · skip
                  refine g_iload X dL_areTrainsApart_95 rfl ?_
                  refine g_if_ne 111 X dL_areTrainsApart_97 (by decide) (fun c97 => ?_) (fun c97 => ?_)
                  · skip
                    refine g_iconst (v := 1) X dL_areTrainsApart_111 (by decide) ?_
                    refine g_goto 116 X dL_areTrainsApart_112 (by decide) ?_
                    refine g_istore (lv' := [(4, .int 1), (6, .int x47), (5, .int x29), (3, .int x3), (2, .ref q), (1, .int x), (0, .ref a)]) X dL_areTrainsApart_116 (by decide) rfl ?_
                    refine gp_iinc 3 X dL_areTrainsApart_118 rfl (by decide) (fun x118 e118 => ?_)
                    refine GJ.leq (lv' := [(3, .int x118), (4, .int 1), (6, .int x47), (5, .int x29), (2, .ref q), (1, .int x), (0, .ref a)]) rfl ?_
                    refine g_goto 10 X dL_areTrainsApart_121 (by decide) ?_
                    refine GJ.pick [1, 0, 4, 5, 6] rfl ?_
                    exact ih (i + 1) _ _ x118 _ _ hxt hq (by omega) (by omega) (by rw [e118, h3]; exact nI_1 i) (cnt_put (by omega) hb hf (by rw [e40, e38]))
                  · skip
                    refine g_aload_n X dL_areTrainsApart_100 rfl ?_
                    refine g_bipush (v := 38) X dL_areTrainsApart_101 (by decide) ?_
                    refine g_iload_n X dL_areTrainsApart_103 rfl ?_
                    refine g_iload_n X dL_areTrainsApart_104 rfl ?_
                    refine g_callS X lm_L_179 (a_38 G (hL.ext hxt) hJ.inv (r := r) hx (hJ.r hr)) rfl rfl (Nat.le_of_ble_eq_true rfl) (by rw [RM]; exact ⟨Nat.le_of_ble_eq_true rfl, Nat.le_of_ble_eq_true rfl⟩) (by rw [RM]; show _ + _ ≤ 120 ∧ _ + _ ≤ 700; omega) dL_areTrainsApart_105 (fun v hz q => ?_) (fun _ _ q => q.elim)
                    obtain ⟨x105, rfl, e105, rfl⟩ := q
                    refine GJ.seq (st' := [.int x105]) rfl ?_
                    replace e105 := tr_at e105 h3 hi hT4
                    refine g_if_ne 115 X dL_areTrainsApart_108 (by decide) (fun c108 => ?_) (fun c108 => ?_)
                    · skip
                      exact absurd (e105.trans (st_r hcase (e47.symm.trans c92) (by omega) (hb.symm.trans (e29.symm.trans c97)))) c108
                    · skip
                      refine g_iconst (v := 1) X dL_areTrainsApart_111 (by decide) ?_
                      refine g_goto 116 X dL_areTrainsApart_112 (by decide) ?_
                      refine g_istore (lv' := [(4, .int 1), (6, .int x47), (5, .int x29), (3, .int x3), (2, .ref q), (1, .int x), (0, .ref a)]) X dL_areTrainsApart_116 (by decide) rfl ?_
                      refine gp_iinc 3 X dL_areTrainsApart_118 rfl (by decide) (fun x118 e118 => ?_)
                      refine GJ.leq (lv' := [(3, .int x118), (4, .int 1), (6, .int x47), (5, .int x29), (2, .ref q), (1, .int x), (0, .ref a)]) rfl ?_
                      refine g_goto 10 X dL_areTrainsApart_121 (by decide) ?_
                      refine GJ.pick [1, 0, 4, 5, 6] rfl ?_
                      exact ih (i + 1) _ _ x118 _ _ hxt hq (by omega) (by omega) (by rw [e118, h3]; exact nI_1 i) (cnt_put (by omega) hb hf (by rw [e40, e38]))
  refine g_astore_n (lv' := [(2, .ref q), (0, .ref a), (1, .int x)]) X dL_areTrainsApart_4 (by decide) rfl ?_
  refine g_iconst (v := 0) X dL_areTrainsApart_5 (by decide) ?_
  refine g_istore_n (lv' := [(3, .int 0), (2, .ref q), (0, .ref a), (1, .int x)]) X dL_areTrainsApart_6 (by decide) rfl ?_
  refine g_iconst (v := 1) X dL_areTrainsApart_7 (by decide) ?_
  refine g_istore (lv' := [(4, .int 1), (3, .int 0), (2, .ref q), (0, .ref a), (1, .int x)]) X dL_areTrainsApart_8 (by decide) rfl ?_
  refine GJ.pick [0, 1, 2, 4, 3] rfl ?_
  exact L1 (pnT P r) 0 _ _ 0 _ _ hxt hq (by omega) (by omega) rfl (fun j _ => rfl)
end GAPART
