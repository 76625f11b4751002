/-! build: its contract -/
section GBUILD2
variable {Z : gEnv} {h : gH} {a : Nat} {P : gP} {t0 N : Nat} {f : Nat → Int32}
theorem clamp {x y z : Int32} (hy : y = if x < 9 then x else 9) (hz : z = if (-9) < y then y else (-9)) : (¬ z < (-9) ∧ ¬ 9 < z) ∧ (x = 0 → z = 0) := by
  have h1 : ¬ 9 < y := by
    rw [hy]
    split
    next h => exact fun e => Int32.lt_irrefl (Int32.lt_trans h e)
    next h => decide
  refine ⟨⟨?_, ?_⟩, fun e => ?_⟩
  · rw [hz]
    split
    next h => exact fun e => Int32.lt_irrefl (Int32.lt_trans h e)
    next h => decide
  · rw [hz]
    split
    next h => exact h1
    next h => decide
  · subst e
    rw [hz, hy]
    decide
theorem kd_f {x9 x8 v : Int32} (hl : x9 = 108 ∨ x9 = 116 ∨ (x9 = 98 ∧ x8 = 0)) (c : x9 = 98) (hv : x8 = 0 → v = 0) : (x9 = 115 ∧ v = 0 ∧ (0 : Int32) = 0) ∨ (x9 = 98 ∧ v = 0 ∧ (0 : Int32) = 0) ∨ x9 = 108 ∨ x9 = 116 := by
  rcases hl with e | e | ⟨-, e⟩
  · exact absurd (e.symm.trans c) (by decide)
  · exact absurd (e.symm.trans c) (by decide)
  · exact Or.inr (Or.inl ⟨c, hv e, rfl⟩)
theorem kd_t {x9 x8 v w : Int32} (hl : x9 = 108 ∨ x9 = 116 ∨ (x9 = 98 ∧ x8 = 0)) (c : ¬ x9 = 98) : (x9 = 115 ∧ v = 0 ∧ w = 0) ∨ (x9 = 98 ∧ v = 0 ∧ w = 0) ∨ x9 = 108 ∨ x9 = 116 := by
  rcases hl with e | e | ⟨e, -⟩
  · exact Or.inr (Or.inr (Or.inl e))
  · exact Or.inr (Or.inr (Or.inr e))
  · exact absurd e c
theorem nI_in2 {x : Int32} {n lo hi : Nat} {l u : Int32} (hx : x = nI n) (hl : l = nI lo) (hu : u = nI hi) (h1 : lo ≤ n) (h2 : n ≤ hi) (h3 : hi < 2 ^ 31) : ¬ x < l ∧ ¬ u < x := by
  rw [hx, hl, hu]
  exact ⟨nI_nlt h1 (by omega), nI_nlt h2 h3⟩
set_option maxHeartbeats 8000000 in
set_option maxRecDepth 100000 in
theorem c_L_build (G : gG Z) (hL : LR Z a P h) (hB : BI 0 0 0 P) (hN : N ≤ 2000) : gMetA Z yL_build cL_build 10 none 12 200 2000 [.ref a, .ref t0] h t0 N f (fun v h2 => v = none ∧ ∃ P2 B, LR Z a P2 h2 ∧ LJ B 0 0 P2) qN := by
  refine g_enterA (lv := [(0, .ref a), (1, .ref t0)]) G.2 (by decide +kernel) (Nat.le_of_ble_eq_true rfl) rfl (fun Γ X Nt E RM hA => ?_)
  have L3 : ∀ (m : Nat) (k kk nn : Nat) (x2 : Int32) (P1 : gP) (h1 : gH) (hL : LR Z a P1 h1) (hB : BI 2 2 k P1) (hb : ∀ r, r < 2 → 4 ≤ pnB P1 r) (hm : m + k = 14) (hkn : kk + m ≤ 180 ∧ nn + m * 11 ≤ 1800) (h2 : x2 = nI k), GJ Z Γ h1 kk nn 344 [(2, .int x2), (1, .ref t0), (0, .ref a)] [] := by
    intro m
    induction m with
    | zero =>
      intro k kk nn x2 P1 h1 hL hB hb hm hkn h2
      have hk : k = 14 := by omega
      subst hk
      refine g_iload_n X dL_build_344 rfl ?_
      refine g_bipush (v := 14) X dL_build_345 (by decide) ?_
      refine g_icmp_ge 400 X dL_build_347 (by decide) (fun c347 => ?_) (fun c347 => ?_)
      · skip
        refine g_return X E dL_build_400 (by omega) (by omega) ?_
        exact ⟨rfl, P1, _, hL, hB.1, ⟨hB.2.1.1, hB.2.1.2, hb⟩, rfl, hB.2.2.1, hB.2.2.2.1⟩
      · skip
        exact absurd c347 (by rw [h2]; exact nI_nlt (b := 14) (by omega) (by omega))
    | succ m ih =>
      intro k kk nn x2 P1 h1 hL hB hb hm hkn h2
      have hk : k < 14 := by omega
      refine g_iload_n X dL_build_344 rfl ?_
      refine g_bipush (v := 14) X dL_build_345 (by decide) ?_
      refine g_icmp_ge 400 X dL_build_347 (by decide) (fun c347 => ?_) (fun c347 => ?_)
      · skip
        exact absurd (by rw [h2]; exact nI_lt (b := 14) hk (by omega)) c347
      · skip
        refine g_aload_n X dL_build_350 rfl ?_
        refine g_bipush (v := 16) X dL_build_351 (by decide) ?_
        refine g_aload_n X dL_build_353 rfl ?_
        refine g_sipush (v := 134) X dL_build_354 (by decide) ?_
        refine g_iload_n X dL_build_357 rfl ?_
        refine g_iadd X dL_build_358 (fun x358 e358 => ?_)
        refine g_bipush (v := 100) X dL_build_359 (by decide) ?_
        have i361 : x358 = nI (134 + k) := by rw [e358, h2, show (134 : Int32) = nI 134 from rfl, nI_add]
        refine GJ.seq (st' := [.int (nI 100), .int (nI (134 + k)), .ref t0, .int 16, .ref a]) (by rw [i361]; first | done | rfl) ?_
        refine g_callSA X hA lm_L_163 (c_L_pick G (i := (134 + k)) (m := 100) (by omega) hN (by decide) (by decide)) rfl rfl (Nat.le_of_ble_eq_true rfl) (by rw [RM]; exact ⟨Nat.le_of_ble_eq_true rfl, Nat.le_of_ble_eq_true rfl⟩) (by rw [RM]; show _ + _ ≤ 200 ∧ _ + _ ≤ 2000; omega) dL_build_361 (fun v hz q => ?_) (fun _ _ q => q.elim)
        obtain ⟨x361, rfl, ⟨j361, hj361, e361⟩, rfl⟩ := q
        refine GJ.seq (st' := [.int x361, .int 16, .ref a]) rfl ?_
        refine g_bipush (v := 60) X dL_build_364 (by decide) ?_
        refine g_aload_n X dL_build_366 rfl ?_
        refine g_sipush (v := 150) X dL_build_367 (by decide) ?_
        refine g_iload_n X dL_build_370 rfl ?_
        refine g_iadd X dL_build_371 (fun x371 e371 => ?_)
        refine g_bipush (v := 100) X dL_build_372 (by decide) ?_
        have i374 : x371 = nI (150 + k) := by rw [e371, h2, show (150 : Int32) = nI 150 from rfl, nI_add]
        refine GJ.seq (st' := [.int (nI 100), .int (nI (150 + k)), .ref t0, .int 60, .int x361, .int 16, .ref a]) (by rw [i374]; first | done | rfl) ?_
        refine g_callSA X hA lm_L_163 (c_L_pick G (i := (150 + k)) (m := 100) (by omega) hN (by decide) (by decide)) rfl rfl (Nat.le_of_ble_eq_true rfl) (by rw [RM]; exact ⟨Nat.le_of_ble_eq_true rfl, Nat.le_of_ble_eq_true rfl⟩) (by rw [RM]; show _ + _ ≤ 200 ∧ _ + _ ≤ 2000; omega) dL_build_374 (fun v hz q => ?_) (fun _ _ q => q.elim)
        obtain ⟨x374, rfl, ⟨j374, hj374, e374⟩, rfl⟩ := q
        refine GJ.seq (st' := [.int x374, .int 60, .int x361, .int 16, .ref a]) rfl ?_
        refine g_iadd X dL_build_377 (fun x377 e377 => ?_)
        refine g_aload_n X dL_build_378 rfl ?_
        refine g_sipush (v := 166) X dL_build_379 (by decide) ?_
        refine g_iload_n X dL_build_382 rfl ?_
        refine g_iadd X dL_build_383 (fun x383 e383 => ?_)
        refine g_iconst (v := 4) X dL_build_384 (by decide) ?_
        have i385 : x383 = nI (166 + k) := by rw [e383, h2, show (166 : Int32) = nI 166 from rfl, nI_add]
        refine GJ.seq (st' := [.int (nI 4), .int (nI (166 + k)), .ref t0, .int x377, .int x361, .int 16, .ref a]) (by rw [i385]; first | done | rfl) ?_
        refine g_callSA X hA lm_L_163 (c_L_pick G (i := (166 + k)) (m := 4) (by omega) hN (by decide) (by decide)) rfl rfl (Nat.le_of_ble_eq_true rfl) (by rw [RM]; exact ⟨Nat.le_of_ble_eq_true rfl, Nat.le_of_ble_eq_true rfl⟩) (by rw [RM]; show _ + _ ≤ 200 ∧ _ + _ ≤ 2000; omega) dL_build_385 (fun v hz q => ?_) (fun _ _ q => q.elim)
        obtain ⟨x385, rfl, ⟨j385, hj385, e385⟩, rfl⟩ := q
        refine GJ.seq (st' := [.int x385, .int x377, .int x361, .int 16, .ref a]) rfl ?_
        refine g_iconst (v := 0) X dL_build_388 (by decide) ?_
        refine g_iconst (v := 0) X dL_build_389 (by decide) ?_
        obtain ⟨Q390, hQ390, hM390, hI390⟩ := b_16 G hL hB (by omega) e361 (by omega) (show x377 = nI (60 + j374) by rw [e377, e374, show (60 : Int32) = nI 60 from rfl, nI_add]) (by omega) e385 (by omega)
        refine g_callSH X lh_L_160 hM390 rfl rfl (Nat.le_of_ble_eq_true rfl) (by rw [RM]; exact ⟨Nat.le_of_ble_eq_true rfl, Nat.le_of_ble_eq_true rfl⟩) (by rw [RM]; show _ + _ ≤ 200 ∧ _ + _ ≤ 2000; omega) dL_build_390 (fun v hz q => ?_) (fun _ _ q => q.elim)
        replace q := hI390 v hz q
        obtain ⟨x390, rfl, P390, hL, hB, hbb⟩ := q
        refine GJ.seq (st' := [.int x390]) rfl ?_
        replace hb : ∀ r, r < 2 → 4 ≤ pnB P390 r := fun r hr => by rw [hbb]; exact hb r hr
        refine g_pop X dL_build_393 rfl ?_
        refine gp_iinc 0 X dL_build_394 rfl (by decide) (fun x394 e394 => ?_)
        refine GJ.leq (lv' := [(2, .int x394), (1, .ref t0), (0, .ref a)]) rfl ?_
        refine g_goto 344 X dL_build_397 (by decide) ?_
        exact ih (k + 1) _ _ x394 P390 _ hL hB hb (by omega) (by omega) (by rw [e394, h2]; exact nI_1 k)
  have L2 : ∀ (m : Nat) (r k mn kk nn KB NB : Nat) (x2 x3 x4 x5 : Int32) (P1 : gP) (h1 : gH) (hL : LR Z a P1 h1) (hB : BI (r + 1) 0 0 P1) (hr : r < 2) (hcl : pI P1 4 r 0 2 = 0) (hnb : pnB P1 r = k) (hb : ∀ r2, r2 < r → 4 ≤ pnB P1 r2) (h2 : x2 = nI r) (h3 : x3 = nI mn) (h5 : x5 = nI k) (hmn : 3 ≤ mn ∧ mn ≤ 11) (hm : m + k = mn + 1) (hk1 : 1 ≤ k) (hkn : kk + m ≤ KB ∧ nn + m * 6 ≤ NB) (hKB : KB ≤ 190 ∧ NB ≤ 1900) (K : ∀ (kk2 nn2 : Nat) (P2 : gP) (h2 : gH), kk2 ≤ KB → nn2 ≤ NB → LR Z a P2 h2 → BI (r + 1) 0 0 P2 → (∀ r2, r2 < r + 1 → 4 ≤ pnB P2 r2) → GJ Z Γ h2 kk2 nn2 242 [(2, .int x2), (1, .ref t0), (0, .ref a)] []), GJ Z Γ h1 kk nn 73 [(5, .int x5), (4, .int x4), (3, .int x3), (2, .int x2), (1, .ref t0), (0, .ref a)] [] := by
    intro m
    induction m with
    | zero =>
      intro r k mn kk nn KB NB x2 x3 x4 x5 P1 h1 hL hB hr hcl hnb hb h2 h3 h5 hmn hm hk1 hkn hKB K
      have hk : k = mn + 1 := by omega
      refine g_iload X dL_build_73 rfl ?_
      refine g_iload_n X dL_build_75 rfl ?_
      refine g_icmp_gt 242 X dL_build_76 (by decide) (fun c76 => ?_) (fun c76 => ?_)
      · skip
        refine GJ.pick [3, 4, 5] rfl ?_
        exact K _ _ P1 _ (by omega) (by omega) hL hB (fun r2 hr2 => (Nat.lt_succ_iff_lt_or_eq.mp hr2).elim (hb r2) (fun e => by rw [e, hnb]; omega))
      · skip
        exact absurd (by rw [h3, h5]; exact nI_lt (by omega) (by omega)) c76
    | succ m ih =>
      intro r k mn kk nn KB NB x2 x3 x4 x5 P1 h1 hL hB hr hcl hnb hb h2 h3 h5 hmn hm hk1 hkn hKB K
      have hk : k ≤ mn := by omega
      have J170 : ∀ (x9 x8 x7 x6 : Int32) (hlet : x9 = 108 ∨ x9 = 116 ∨ (x9 = 98 ∧ x8 = 0)) (h6 : x6 = nI (10 + 60 * r + 4 * k)), GJ Z Γ h1 kk nn 170 [(8, .int x8), (7, .int x7), (6, .int x6), (5, .int x5), (4, .int x4), (3, .int x3), (2, .int x2), (1, .ref t0), (0, .ref a)] [.int x9] := by
        intro x9 x8 x7 x6 hlet h6
        refine g_istore (lv' := [(9, .int x9), (8, .int x8), (7, .int x7), (6, .int x6), (5, .int x5), (4, .int x4), (3, .int x3), (2, .int x2), (1, .ref t0), (0, .ref a)]) X dL_build_170 (by decide) rfl ?_
        refine g_bipush (v := (-9)) X dL_build_172 (by decide) ?_
        refine g_bipush (v := 9) X dL_build_174 (by decide) ?_
        refine g_iload X dL_build_176 rfl ?_
        refine gp_min X RM lm_L_171 ⟨Nat.le_of_ble_eq_true rfl, Nat.le_of_ble_eq_true rfl⟩ (by omega) dL_build_178 (fun x178 e178 => ?_)
        refine gp_max X RM lm_L_176 ⟨Nat.le_of_ble_eq_true rfl, Nat.le_of_ble_eq_true rfl⟩ (by omega) dL_build_181 (fun x181 e181 => ?_)
        have hcm := clamp e178 e181
        refine g_istore (lv' := [(8, .int x181), (9, .int x9), (7, .int x7), (6, .int x6), (5, .int x5), (4, .int x4), (3, .int x3), (2, .int x2), (1, .ref t0), (0, .ref a)]) X dL_build_184 (by decide) rfl ?_
        refine g_aload_n X dL_build_186 rfl ?_
        refine g_iload_n X dL_build_187 rfl ?_
        refine g_iload X dL_build_188 rfl ?_
        refine g_iconst (v := 1) X dL_build_190 (by decide) ?_
        refine g_aload_n X dL_build_191 rfl ?_
        refine g_iload X dL_build_192 rfl ?_
        refine g_iconst (v := 2) X dL_build_194 (by decide) ?_
        refine g_iadd X dL_build_195 (fun x195 e195 => ?_)
        refine g_bipush (v := 20) X dL_build_196 (by decide) ?_
        have i198 : x195 = nI (10 + 60 * r + 4 * k + 2) := by rw [e195, h6, show (2 : Int32) = nI 2 from rfl, nI_add]
        refine GJ.seq (st' := [.int (nI 20), .int (nI (10 + 60 * r + 4 * k + 2)), .ref t0, .int 1, .int x9, .int x2, .ref a]) (by rw [i198]; first | done | rfl) ?_
        refine g_callSA X hA lm_L_163 (c_L_pick G (i := (10 + 60 * r + 4 * k + 2)) (m := 20) (by omega) hN (by decide) (by decide)) rfl rfl (Nat.le_of_ble_eq_true rfl) (by rw [RM]; exact ⟨Nat.le_of_ble_eq_true rfl, Nat.le_of_ble_eq_true rfl⟩) (by rw [RM]; show _ + _ ≤ 200 ∧ _ + _ ≤ 2000; omega) dL_build_198 (fun v hz q => ?_) (fun _ _ q => q.elim)
        obtain ⟨x198, rfl, ⟨j198, hj198, e198⟩, rfl⟩ := q
        refine GJ.seq (st' := [.int x198, .int 1, .int x9, .int x2, .ref a]) rfl ?_
        refine g_iadd X dL_build_201 (fun x201 e201 => ?_)
        refine g_iload X dL_build_202 rfl ?_
        refine g_iload X dL_build_204 rfl ?_
        refine g_bipush (v := 98) X dL_build_206 (by decide) ?_
        refine g_icmp_ne 215 X dL_build_208 (by decide) (fun c208 => ?_) (fun c208 => ?_)
        · skip
          refine g_aload_n X dL_build_215 rfl ?_
          refine g_iload X dL_build_216 rfl ?_
          refine g_iconst (v := 3) X dL_build_218 (by decide) ?_
          refine g_iadd X dL_build_219 (fun x219 e219 => ?_)
          refine g_bipush (v := 7) X dL_build_220 (by decide) ?_
          have i222 : x219 = nI (10 + 60 * r + 4 * k + 3) := by rw [e219, h6, show (3 : Int32) = nI 3 from rfl, nI_add]
          refine GJ.seq (st' := [.int (nI 7), .int (nI (10 + 60 * r + 4 * k + 3)), .ref t0, .int x181, .int x201, .int x9, .int x2, .ref a]) (by rw [i222]; first | done | rfl) ?_
          refine g_callSA X hA lm_L_163 (c_L_pick G (i := (10 + 60 * r + 4 * k + 3)) (m := 7) (by omega) hN (by decide) (by decide)) rfl rfl (Nat.le_of_ble_eq_true rfl) (by rw [RM]; exact ⟨Nat.le_of_ble_eq_true rfl, Nat.le_of_ble_eq_true rfl⟩) (by rw [RM]; show _ + _ ≤ 200 ∧ _ + _ ≤ 2000; omega) dL_build_222 (fun v hz q => ?_) (fun _ _ q => q.elim)
          obtain ⟨x222, rfl, ⟨j222, hj222, e222⟩, rfl⟩ := q
          refine GJ.seq (st' := [.int x222, .int x181, .int x201, .int x9, .int x2, .ref a]) rfl ?_
          refine g_callS X lm_L_167 (b_1 G hL hB h2 (by omega) hcl hnb (by omega) (nI_in2 (lo := 1) (hi := 20) (l := 1) (u := 20) (show x201 = nI (1 + j198) by rw [e201, e198, show (1 : Int32) = nI 1 from rfl, nI_add]) rfl rfl (by omega) (by omega) (by omega)) hcm.1 (nI_in2 (lo := 0) (hi := 9) (l := 0) (u := 9) e222 rfl rfl (by omega) (by omega) (by omega)) (kd_t hlet c208)) rfl rfl (Nat.le_of_ble_eq_true rfl) (by rw [RM]; exact ⟨Nat.le_of_ble_eq_true rfl, Nat.le_of_ble_eq_true rfl⟩) (by rw [RM]; show _ + _ ≤ 200 ∧ _ + _ ≤ 2000; omega) dL_build_225 (fun v hz q => ?_) (fun _ _ q => q.elim)
          obtain ⟨x225, rfl, P225, hL, hB, hnb, hcl, hbb⟩ := q
          refine GJ.seq (st' := [.int x225]) rfl ?_
          refine g_pop X dL_build_228 rfl ?_
          refine g_iload X dL_build_229 rfl ?_
          refine g_iload X dL_build_231 rfl ?_
          refine g_iadd X dL_build_233 (fun x233 e233 => ?_)
          refine g_istore (lv' := [(4, .int x233), (8, .int x181), (9, .int x9), (7, .int x7), (6, .int x6), (5, .int x5), (3, .int x3), (2, .int x2), (1, .ref t0), (0, .ref a)]) X dL_build_234 (by decide) rfl ?_
          refine gp_iinc 5 X dL_build_236 rfl (by decide) (fun x236 e236 => ?_)
          refine GJ.leq (lv' := [(5, .int x236), (4, .int x233), (8, .int x181), (9, .int x9), (7, .int x7), (6, .int x6), (3, .int x3), (2, .int x2), (1, .ref t0), (0, .ref a)]) rfl ?_
          refine g_goto 73 X dL_build_239 (by decide) ?_
          refine GJ.pick [0, 1, 6, 7, 8, 9] rfl ?_
          exact ih r (k + 1) mn _ _ KB NB x2 x3 x233 x236 P225 _ hL hB hr hcl hnb (fun r2 hr2 => by rw [hbb r2 (by omega)]; exact hb r2 hr2) h2 h3 (by rw [e236, h5]; exact nI_1 k) hmn (by omega) (by omega) (by omega) hKB K
        · skip
          refine g_iconst (v := 0) X dL_build_211 (by decide) ?_
          refine g_goto 225 X dL_build_212 (by decide) ?_
          refine g_callS X lm_L_167 (b_1 G hL hB h2 (by omega) hcl hnb (by omega) (nI_in2 (lo := 1) (hi := 20) (l := 1) (u := 20) (show x201 = nI (1 + j198) by rw [e201, e198, show (1 : Int32) = nI 1 from rfl, nI_add]) rfl rfl (by omega) (by omega) (by omega)) hcm.1 (by decide) (kd_f hlet c208 hcm.2)) rfl rfl (Nat.le_of_ble_eq_true rfl) (by rw [RM]; exact ⟨Nat.le_of_ble_eq_true rfl, Nat.le_of_ble_eq_true rfl⟩) (by rw [RM]; show _ + _ ≤ 200 ∧ _ + _ ≤ 2000; omega) dL_build_225 (fun v hz q => ?_) (fun _ _ q => q.elim)
          obtain ⟨x225, rfl, P225, hL, hB, hnb, hcl, hbb⟩ := q
          refine GJ.seq (st' := [.int x225]) rfl ?_
          refine g_pop X dL_build_228 rfl ?_
          refine g_iload X dL_build_229 rfl ?_
          refine g_iload X dL_build_231 rfl ?_
          refine g_iadd X dL_build_233 (fun x233 e233 => ?_)
          refine g_istore (lv' := [(4, .int x233), (8, .int x181), (9, .int x9), (7, .int x7), (6, .int x6), (5, .int x5), (3, .int x3), (2, .int x2), (1, .ref t0), (0, .ref a)]) X dL_build_234 (by decide) rfl ?_
          refine gp_iinc 5 X dL_build_236 rfl (by decide) (fun x236 e236 => ?_)
          refine GJ.leq (lv' := [(5, .int x236), (4, .int x233), (8, .int x181), (9, .int x9), (7, .int x7), (6, .int x6), (3, .int x3), (2, .int x2), (1, .ref t0), (0, .ref a)]) rfl ?_
          refine g_goto 73 X dL_build_239 (by decide) ?_
          refine GJ.pick [0, 1, 6, 7, 8, 9] rfl ?_
          exact ih r (k + 1) mn _ _ KB NB x2 x3 x233 x236 P225 _ hL hB hr hcl hnb (fun r2 hr2 => by rw [hbb r2 (by omega)]; exact hb r2 hr2) h2 h3 (by rw [e236, h5]; exact nI_1 k) hmn (by omega) (by omega) (by omega) hKB K
      have J134 : ∀ (x8 x7 x6 : Int32) (hz0 : x7 = 0 → ¬ x5 = x3 → x8 = 0) (h6 : x6 = nI (10 + 60 * r + 4 * k)), GJ Z Γ h1 kk nn 134 [(7, .int x7), (6, .int x6), (5, .int x5), (4, .int x4), (3, .int x3), (2, .int x2), (1, .ref t0), (0, .ref a)] [.int x8] := by
        intro x8 x7 x6 hz0 h6
        refine g_istore (lv' := [(8, .int x8), (7, .int x7), (6, .int x6), (5, .int x5), (4, .int x4), (3, .int x3), (2, .int x2), (1, .ref t0), (0, .ref a)]) X dL_build_134 (by decide) rfl ?_
        refine g_iload X dL_build_136 rfl ?_
        refine g_iload_n X dL_build_138 rfl ?_
        refine g_icmp_ne 147 X dL_build_139 (by decide) (fun c139 => ?_) (fun c139 => ?_)
        · skip
          refine g_iload X dL_build_147 rfl ?_
          refine g_if_ne 157 X dL_build_149 (by decide) (fun c149 => ?_) (fun c149 => ?_)
          · skip
            refine g_iload X dL_build_157 rfl ?_
            refine g_iconst (v := 1) X dL_build_159 (by decide) ?_
            refine g_icmp_ne 168 X dL_build_160 (by decide) (fun c160 => ?_) (fun c160 => ?_)
            · skip
              refine g_bipush (v := 116) X dL_build_168 (by decide) ?_
              exact J170 116 x8 x7 x6 (Or.inr (Or.inl rfl)) h6
            · skip
              refine g_bipush (v := 108) X dL_build_163 (by decide) ?_
              refine g_goto 170 X dL_build_165 (by decide) ?_
              exact J170 108 x8 x7 x6 (Or.inl rfl) h6
          · skip
            refine g_bipush (v := 98) X dL_build_152 (by decide) ?_
            refine g_goto 170 X dL_build_154 (by decide) ?_
            exact J170 98 x8 x7 x6 (Or.inr (Or.inr ⟨rfl, hz0 c149 c139⟩)) h6
        · skip
          refine g_bipush (v := 116) X dL_build_142 (by decide) ?_
          refine g_goto 170 X dL_build_144 (by decide) ?_
          exact J170 116 x8 x7 x6 (Or.inr (Or.inl rfl)) h6
      refine g_iload X dL_build_73 rfl ?_
      refine g_iload_n X dL_build_75 rfl ?_
      refine g_icmp_gt 242 X dL_build_76 (by decide) (fun c76 => ?_) (fun c76 => ?_)
      · skip
        exact absurd c76 (by rw [h3, h5]; exact nI_nlt hk (by omega))
      · skip
        refine g_bipush (v := 10) X dL_build_79 (by decide) ?_
        refine g_bipush (v := 60) X dL_build_81 (by decide) ?_
        refine g_iload_n X dL_build_83 rfl ?_
        refine g_imul X dL_build_84 (fun x84 e84 => ?_)
        refine g_iadd X dL_build_85 (fun x85 e85 => ?_)
        refine g_iconst (v := 4) X dL_build_86 (by decide) ?_
        refine g_iload X dL_build_87 rfl ?_
        refine g_imul X dL_build_89 (fun x89 e89 => ?_)
        refine g_iadd X dL_build_90 (fun x90 e90 => ?_)
        refine g_istore (lv' := [(6, .int x90), (5, .int x5), (4, .int x4), (3, .int x3), (2, .int x2), (1, .ref t0), (0, .ref a)]) X dL_build_91 (by decide) rfl ?_
        refine g_aload_n X dL_build_93 rfl ?_
        refine g_iload X dL_build_94 rfl ?_
        refine g_iconst (v := 5) X dL_build_96 (by decide) ?_
        have i97 : x90 = nI (10 + 60 * r + 4 * k) := by rw [e90, e85, e84, e89, h2, h5, show (60 : Int32) = nI 60 from rfl, show (4 : Int32) = nI 4 from rfl, show (10 : Int32) = nI 10 from rfl, pk_mul, pk_mul, nI_add, nI_add]
        refine GJ.seq (st' := [.int (nI 5), .int (nI (10 + 60 * r + 4 * k)), .ref t0]) (by rw [i97]; first | done | rfl) ?_
        refine g_callSA X hA lm_L_163 (c_L_pick G (i := (10 + 60 * r + 4 * k)) (m := 5) (by omega) hN (by decide) (by decide)) rfl rfl (Nat.le_of_ble_eq_true rfl) (by rw [RM]; exact ⟨Nat.le_of_ble_eq_true rfl, Nat.le_of_ble_eq_true rfl⟩) (by rw [RM]; show _ + _ ≤ 200 ∧ _ + _ ≤ 2000; omega) dL_build_97 (fun v hz q => ?_) (fun _ _ q => q.elim)
        obtain ⟨x97, rfl, ⟨j97, hj97, e97⟩, rfl⟩ := q
        refine GJ.seq (st' := [.int x97]) rfl ?_
        refine g_istore (lv' := [(7, .int x97), (6, .int x90), (5, .int x5), (4, .int x4), (3, .int x3), (2, .int x2), (1, .ref t0), (0, .ref a)]) X dL_build_100 (by decide) rfl ?_
        refine g_iload X dL_build_102 rfl ?_
        refine g_iload_n X dL_build_104 rfl ?_
        refine g_icmp_ne 114 X dL_build_105 (by decide) (fun c105 => ?_) (fun c105 => ?_)
        · skip
          refine g_iload X dL_build_114 rfl ?_
          refine g_if_ne 123 X dL_build_116 (by decide) (fun c116 => ?_) (fun c116 => ?_)
          · skip
            refine g_aload_n X dL_build_123 rfl ?_
            refine g_iload X dL_build_124 rfl ?_
            refine g_iconst (v := 1) X dL_build_126 (by decide) ?_
            refine g_iadd X dL_build_127 (fun x127 e127 => ?_)
            refine g_iconst (v := 5) X dL_build_128 (by decide) ?_
            have i129 : x127 = nI (10 + 60 * r + 4 * k + 1) := by rw [e127, i97, show (1 : Int32) = nI 1 from rfl, nI_add]
            refine GJ.seq (st' := [.int (nI 5), .int (nI (10 + 60 * r + 4 * k + 1)), .ref t0]) (by rw [i129]; first | done | rfl) ?_
            refine g_callSA X hA lm_L_163 (c_L_pick G (i := (10 + 60 * r + 4 * k + 1)) (m := 5) (by omega) hN (by decide) (by decide)) rfl rfl (Nat.le_of_ble_eq_true rfl) (by rw [RM]; exact ⟨Nat.le_of_ble_eq_true rfl, Nat.le_of_ble_eq_true rfl⟩) (by rw [RM]; show _ + _ ≤ 200 ∧ _ + _ ≤ 2000; omega) dL_build_129 (fun v hz q => ?_) (fun _ _ q => q.elim)
            obtain ⟨x129, rfl, ⟨j129, hj129, e129⟩, rfl⟩ := q
            refine GJ.seq (st' := [.int x129]) rfl ?_
            refine g_iconst (v := 2) X dL_build_132 (by decide) ?_
            refine g_isub X dL_build_133 (fun x133 e133 => ?_)
            exact J134 x133 x97 x90 (fun e _ => absurd e c116) i97
          · skip
            refine g_iconst (v := 0) X dL_build_119 (by decide) ?_
            refine g_goto 134 X dL_build_120 (by decide) ?_
            exact J134 0 x97 x90 (fun _ _ => rfl) i97
        · skip
          refine g_iload X dL_build_108 rfl ?_
          refine g_ineg X dL_build_110 (fun x110 e110 => ?_)
          refine g_goto 134 X dL_build_111 (by decide) ?_
          exact J134 x110 x97 x90 (fun _ hn => absurd c105 hn) i97
  have L1 : ∀ (m : Nat) (r kk nn : Nat) (x2 : Int32) (P1 : gP) (h1 : gH) (hL : LR Z a P1 h1) (hB : BI r 0 0 P1) (hb : ∀ r2, r2 < r → 4 ≤ pnB P1 r2) (hm : m + r = 2) (hkn : kk + m * 40 ≤ 120 ∧ nn + m * 500 ≤ 1400) (h2 : x2 = nI r), GJ Z Γ h1 kk nn 2 [(2, .int x2), (1, .ref t0), (0, .ref a)] [] := by
    intro m
    induction m with
    | zero =>
      intro r kk nn x2 P1 h1 hL hB hb hm hkn h2
      have hr : r = 2 := by omega
      subst hr
      refine g_iload_n X dL_build_2 rfl ?_
      refine g_iconst (v := 2) X dL_build_3 (by decide) ?_
      refine g_icmp_ge 276 X dL_build_4 (by decide) (fun c4 => ?_) (fun c4 => ?_)
      · skip
        refine g_aload_n X dL_build_276 rfl ?_
        refine g_iconst (v := 4) X dL_build_277 (by decide) ?_
        refine g_iconst (v := 1) X dL_build_278 (by decide) ?_
        refine g_aload_n X dL_build_279 rfl ?_
        refine g_sipush (v := 132) X dL_build_280 (by decide) ?_
        refine g_iconst (v := 3) X dL_build_283 (by decide) ?_
        refine GJ.seq (st' := [.int (nI 3), .int (nI 132), .ref t0, .int 1, .int 4, .ref a]) rfl ?_
        refine g_callSA X hA lm_L_163 (c_L_pick G (i := 132) (m := 3) (by omega) hN (by decide) (by decide)) rfl rfl (Nat.le_of_ble_eq_true rfl) (by rw [RM]; exact ⟨Nat.le_of_ble_eq_true rfl, Nat.le_of_ble_eq_true rfl⟩) (by rw [RM]; show _ + _ ≤ 200 ∧ _ + _ ≤ 2000; omega) dL_build_284 (fun v hz q => ?_) (fun _ _ q => q.elim)
        obtain ⟨x284, rfl, ⟨j284, hj284, e284⟩, rfl⟩ := q
        refine GJ.seq (st' := [.int x284, .int 1, .int 4, .ref a]) rfl ?_
        refine g_iadd X dL_build_287 (fun x287 e287 => ?_)
        refine g_iconst (v := 0) X dL_build_288 (by decide) ?_
        refine g_callS X lm_L_179 (b_4 G hL hB (by decide) (show x287 = nI (1 + j284) by rw [e287, e284, show (1 : Int32) = nI 1 from rfl, nI_add]) (by omega)) rfl rfl (Nat.le_of_ble_eq_true rfl) (by rw [RM]; exact ⟨Nat.le_of_ble_eq_true rfl, Nat.le_of_ble_eq_true rfl⟩) (by rw [RM]; show _ + _ ≤ 200 ∧ _ + _ ≤ 2000; omega) dL_build_289 (fun v hz q => ?_) (fun _ _ q => q.elim)
        obtain ⟨x289, rfl, P289, hL, hB, hbb⟩ := q
        refine GJ.seq (st' := [.int x289]) rfl ?_
        replace hb : ∀ r, r < 2 → 4 ≤ pnB P289 r := fun r hr => by rw [hbb]; exact hb r hr
        refine g_pop X dL_build_292 rfl ?_
        refine g_aload_n X dL_build_293 rfl ?_
        refine g_iconst (v := 4) X dL_build_294 (by decide) ?_
        refine g_iconst (v := 3) X dL_build_295 (by decide) ?_
        refine g_iconst (v := 0) X dL_build_296 (by decide) ?_
        refine g_callS X lm_L_179 (b_4 G hL hB (by decide) (j := 3) rfl (by decide)) rfl rfl (Nat.le_of_ble_eq_true rfl) (by rw [RM]; exact ⟨Nat.le_of_ble_eq_true rfl, Nat.le_of_ble_eq_true rfl⟩) (by rw [RM]; show _ + _ ≤ 200 ∧ _ + _ ≤ 2000; omega) dL_build_297 (fun v hz q => ?_) (fun _ _ q => q.elim)
        obtain ⟨x297, rfl, P297, hL, hB, hbb⟩ := q
        refine GJ.seq (st' := [.int x297]) rfl ?_
        replace hb : ∀ r, r < 2 → 4 ≤ pnB P297 r := fun r hr => by rw [hbb]; exact hb r hr
        refine g_pop X dL_build_300 rfl ?_
        refine g_aload_n X dL_build_301 rfl ?_
        refine g_iconst (v := 5) X dL_build_302 (by decide) ?_
        refine g_iconst (v := 0) X dL_build_303 (by decide) ?_
        refine g_aload_n X dL_build_304 rfl ?_
        refine g_sipush (v := 133) X dL_build_305 (by decide) ?_
        refine g_iconst (v := 2) X dL_build_308 (by decide) ?_
        refine GJ.seq (st' := [.int (nI 2), .int (nI 133), .ref t0, .int 0, .int 5, .ref a]) rfl ?_
        refine g_callSA X hA lm_L_163 (c_L_pick G (i := 133) (m := 2) (by omega) hN (by decide) (by decide)) rfl rfl (Nat.le_of_ble_eq_true rfl) (by rw [RM]; exact ⟨Nat.le_of_ble_eq_true rfl, Nat.le_of_ble_eq_true rfl⟩) (by rw [RM]; show _ + _ ≤ 200 ∧ _ + _ ≤ 2000; omega) dL_build_309 (fun v hz q => ?_) (fun _ _ q => q.elim)
        obtain ⟨x309, rfl, ⟨j309, hj309, e309⟩, rfl⟩ := q
        refine GJ.seq (st' := [.int x309, .int 0, .int 5, .ref a]) rfl ?_
        refine g_callS X lm_L_179 (b_5 G hL hB (by decide) (r := 0) rfl (by decide) e309 hj309) rfl rfl (Nat.le_of_ble_eq_true rfl) (by rw [RM]; exact ⟨Nat.le_of_ble_eq_true rfl, Nat.le_of_ble_eq_true rfl⟩) (by rw [RM]; show _ + _ ≤ 200 ∧ _ + _ ≤ 2000; omega) dL_build_312 (fun v hz q => ?_) (fun _ _ q => q.elim)
        obtain ⟨x312, rfl, P312, hL, hB, hbb⟩ := q
        refine GJ.seq (st' := [.int x312]) rfl ?_
        replace hb : ∀ r, r < 2 → 4 ≤ pnB P312 r := fun r hr => by rw [hbb]; exact hb r hr
        refine g_pop X dL_build_315 rfl ?_
        refine g_aload_n X dL_build_316 rfl ?_
        refine g_iconst (v := 5) X dL_build_317 (by decide) ?_
        refine g_iconst (v := 1) X dL_build_318 (by decide) ?_
        refine g_iconst (v := 1) X dL_build_319 (by decide) ?_
        refine g_callS X lm_L_179 (b_5 G hL hB (by decide) (r := 1) rfl (by decide) (m := 1) rfl (by decide)) rfl rfl (Nat.le_of_ble_eq_true rfl) (by rw [RM]; exact ⟨Nat.le_of_ble_eq_true rfl, Nat.le_of_ble_eq_true rfl⟩) (by rw [RM]; show _ + _ ≤ 200 ∧ _ + _ ≤ 2000; omega) dL_build_320 (fun v hz q => ?_) (fun _ _ q => q.elim)
        obtain ⟨x320, rfl, P320, hL, hB, hbb⟩ := q
        refine GJ.seq (st' := [.int x320]) rfl ?_
        replace hb : ∀ r, r < 2 → 4 ≤ pnB P320 r := fun r hr => by rw [hbb]; exact hb r hr
        refine g_pop X dL_build_323 rfl ?_
        refine g_aload_n X dL_build_324 rfl ?_
        refine g_bipush (v := 6) X dL_build_325 (by decide) ?_
        refine g_iconst (v := 0) X dL_build_327 (by decide) ?_
        refine g_iconst (v := 1) X dL_build_328 (by decide) ?_
        refine g_callS X lm_L_179 (b_6 G hL hB (by decide) (r := 0) rfl (by decide) (m := 1) rfl (by decide)) rfl rfl (Nat.le_of_ble_eq_true rfl) (by rw [RM]; exact ⟨Nat.le_of_ble_eq_true rfl, Nat.le_of_ble_eq_true rfl⟩) (by rw [RM]; show _ + _ ≤ 200 ∧ _ + _ ≤ 2000; omega) dL_build_329 (fun v hz q => ?_) (fun _ _ q => q.elim)
        obtain ⟨x329, rfl, P329, hL, hB, hbb⟩ := q
        refine GJ.seq (st' := [.int x329]) rfl ?_
        replace hb : ∀ r, r < 2 → 4 ≤ pnB P329 r := fun r hr => by rw [hbb]; exact hb r hr
        refine g_pop X dL_build_332 rfl ?_
        refine g_aload_n X dL_build_333 rfl ?_
        refine g_bipush (v := 6) X dL_build_334 (by decide) ?_
        refine g_iconst (v := 1) X dL_build_336 (by decide) ?_
        refine g_iconst (v := 1) X dL_build_337 (by decide) ?_
        refine g_callS X lm_L_179 (b_6 G hL hB (by decide) (r := 1) rfl (by decide) (m := 1) rfl (by decide)) rfl rfl (Nat.le_of_ble_eq_true rfl) (by rw [RM]; exact ⟨Nat.le_of_ble_eq_true rfl, Nat.le_of_ble_eq_true rfl⟩) (by rw [RM]; show _ + _ ≤ 200 ∧ _ + _ ≤ 2000; omega) dL_build_338 (fun v hz q => ?_) (fun _ _ q => q.elim)
        obtain ⟨x338, rfl, P338, hL, hB, hbb⟩ := q
        refine GJ.seq (st' := [.int x338]) rfl ?_
        replace hb : ∀ r, r < 2 → 4 ≤ pnB P338 r := fun r hr => by rw [hbb]; exact hb r hr
        refine g_pop X dL_build_341 rfl ?_
        refine g_iconst (v := 0) X dL_build_342 (by decide) ?_
        refine g_istore_n (lv' := [(2, .int 0), (1, .ref t0), (0, .ref a)]) X dL_build_343 (by decide) rfl ?_
        exact L3 14 0 _ _ 0 P338 _ hL hB hb rfl (by omega) rfl
      · skip
        exact absurd c4 (by rw [h2]; exact nI_nlt (b := 2) (by omega) (by omega))
    | succ m ih =>
      intro r kk nn x2 P1 h1 hL hB hb hm hkn h2
      have hr : r < 2 := by omega
      refine g_iload_n X dL_build_2 rfl ?_
      refine g_iconst (v := 2) X dL_build_3 (by decide) ?_
      refine g_icmp_ge 276 X dL_build_4 (by decide) (fun c4 => ?_) (fun c4 => ?_)
      · skip
        exact absurd (by rw [h2]; exact nI_lt (b := 2) hr (by omega)) c4
      · skip
        refine g_aload_n X dL_build_7 rfl ?_
        refine g_iconst (v := 0) X dL_build_8 (by decide) ?_
        refine g_bipush (v := 50) X dL_build_9 (by decide) ?_
        refine g_aload_n X dL_build_11 rfl ?_
        refine g_iload_n X dL_build_12 rfl ?_
        refine g_bipush (v := 80) X dL_build_13 (by decide) ?_
        have i15 : x2 = nI (r) := by exact h2
        refine GJ.seq (st' := [.int (nI 80), .int (nI (r)), .ref t0, .int 50, .int 0, .ref a]) (by rw [i15]; first | done | rfl) ?_
        refine g_callSA X hA lm_L_163 (c_L_pick G (i := (r)) (m := 80) (by omega) hN (by decide) (by decide)) rfl rfl (Nat.le_of_ble_eq_true rfl) (by rw [RM]; exact ⟨Nat.le_of_ble_eq_true rfl, Nat.le_of_ble_eq_true rfl⟩) (by rw [RM]; show _ + _ ≤ 200 ∧ _ + _ ≤ 2000; omega) dL_build_15 (fun v hz q => ?_) (fun _ _ q => q.elim)
        obtain ⟨x15, rfl, ⟨j15, hj15, e15⟩, rfl⟩ := q
        refine GJ.seq (st' := [.int x15, .int 50, .int 0, .ref a]) rfl ?_
        refine g_iadd X dL_build_18 (fun x18 e18 => ?_)
        refine g_aload_n X dL_build_19 rfl ?_
        refine g_iconst (v := 2) X dL_build_20 (by decide) ?_
        refine g_iload_n X dL_build_21 rfl ?_
        refine g_iadd X dL_build_22 (fun x22 e22 => ?_)
        refine g_bipush (v := 41) X dL_build_23 (by decide) ?_
        have i25 : x22 = nI (2 + r) := by rw [e22, h2, show (2 : Int32) = nI 2 from rfl, nI_add]
        refine GJ.seq (st' := [.int (nI 41), .int (nI (2 + r)), .ref t0, .int x18, .int 0, .ref a]) (by rw [i25]; first | done | rfl) ?_
        refine g_callSA X hA lm_L_163 (c_L_pick G (i := (2 + r)) (m := 41) (by omega) hN (by decide) (by decide)) rfl rfl (Nat.le_of_ble_eq_true rfl) (by rw [RM]; exact ⟨Nat.le_of_ble_eq_true rfl, Nat.le_of_ble_eq_true rfl⟩) (by rw [RM]; show _ + _ ≤ 200 ∧ _ + _ ≤ 2000; omega) dL_build_25 (fun v hz q => ?_) (fun _ _ q => q.elim)
        obtain ⟨x25, rfl, ⟨j25, hj25, e25⟩, rfl⟩ := q
        refine GJ.seq (st' := [.int x25, .int x18, .int 0, .ref a]) rfl ?_
        refine g_aload_n X dL_build_28 rfl ?_
        refine g_iconst (v := 4) X dL_build_29 (by decide) ?_
        refine g_iload_n X dL_build_30 rfl ?_
        refine g_iadd X dL_build_31 (fun x31 e31 => ?_)
        refine g_bipush (v := 20) X dL_build_32 (by decide) ?_
        have i34 : x31 = nI (4 + r) := by rw [e31, h2, show (4 : Int32) = nI 4 from rfl, nI_add]
        refine GJ.seq (st' := [.int (nI 20), .int (nI (4 + r)), .ref t0, .int x25, .int x18, .int 0, .ref a]) (by rw [i34]; first | done | rfl) ?_
        refine g_callSA X hA lm_L_163 (c_L_pick G (i := (4 + r)) (m := 20) (by omega) hN (by decide) (by decide)) rfl rfl (Nat.le_of_ble_eq_true rfl) (by rw [RM]; exact ⟨Nat.le_of_ble_eq_true rfl, Nat.le_of_ble_eq_true rfl⟩) (by rw [RM]; show _ + _ ≤ 200 ∧ _ + _ ≤ 2000; omega) dL_build_34 (fun v hz q => ?_) (fun _ _ q => q.elim)
        obtain ⟨x34, rfl, ⟨j34, hj34, e34⟩, rfl⟩ := q
        refine GJ.seq (st' := [.int x34, .int x25, .int x18, .int 0, .ref a]) rfl ?_
        refine g_iconst (v := 0) X dL_build_37 (by decide) ?_
        refine g_iconst (v := 0) X dL_build_38 (by decide) ?_
        obtain ⟨Q39, hQ39, hM39, hI39⟩ := b_0 G hL hB (by omega) (show x18 = nI (50 + j15) by rw [e18, e15, show (50 : Int32) = nI 50 from rfl, nI_add]) (by omega) e25 (by omega) e34 (by omega)
        refine g_callSH X lh_L_160 hM39 rfl rfl (Nat.le_of_ble_eq_true rfl) (by rw [RM]; exact ⟨Nat.le_of_ble_eq_true rfl, Nat.le_of_ble_eq_true rfl⟩) (by rw [RM]; show _ + _ ≤ 200 ∧ _ + _ ≤ 2000; omega) dL_build_39 (fun v hz q => ?_) (fun _ _ q => q.elim)
        replace q := hI39 v hz q
        obtain ⟨x39, rfl, P39, hL, hB, hnb, hcl, hbb⟩ := q
        refine GJ.seq (st' := [.int x39]) rfl ?_
        replace hb : ∀ r2, r2 < r → 4 ≤ pnB P39 r2 := fun r2 hr2 => by rw [hbb r2 (by omega)]; exact hb r2 hr2
        refine g_pop X dL_build_42 rfl ?_
        refine g_iconst (v := 3) X dL_build_43 (by decide) ?_
        refine g_aload_n X dL_build_44 rfl ?_
        refine g_bipush (v := 6) X dL_build_45 (by decide) ?_
        refine g_iload_n X dL_build_47 rfl ?_
        refine g_iadd X dL_build_48 (fun x48 e48 => ?_)
        refine g_bipush (v := 9) X dL_build_49 (by decide) ?_
        have i51 : x48 = nI (6 + r) := by rw [e48, h2, show (6 : Int32) = nI 6 from rfl, nI_add]
        refine GJ.seq (st' := [.int (nI 9), .int (nI (6 + r)), .ref t0, .int 3]) (by rw [i51]; first | done | rfl) ?_
        refine g_callSA X hA lm_L_163 (c_L_pick G (i := (6 + r)) (m := 9) (by omega) hN (by decide) (by decide)) rfl rfl (Nat.le_of_ble_eq_true rfl) (by rw [RM]; exact ⟨Nat.le_of_ble_eq_true rfl, Nat.le_of_ble_eq_true rfl⟩) (by rw [RM]; show _ + _ ≤ 200 ∧ _ + _ ≤ 2000; omega) dL_build_51 (fun v hz q => ?_) (fun _ _ q => q.elim)
        obtain ⟨x51, rfl, ⟨j51, hj51, e51⟩, rfl⟩ := q
        refine GJ.seq (st' := [.int x51, .int 3]) rfl ?_
        refine g_iadd X dL_build_54 (fun x54 e54 => ?_)
        refine g_istore_n (lv' := [(3, .int x54), (2, .int x2), (1, .ref t0), (0, .ref a)]) X dL_build_55 (by decide) rfl ?_
        refine g_iconst (v := 0) X dL_build_56 (by decide) ?_
        refine g_istore (lv' := [(4, .int 0), (3, .int x54), (2, .int x2), (1, .ref t0), (0, .ref a)]) X dL_build_57 (by decide) rfl ?_
        refine g_aload_n X dL_build_59 rfl ?_
        refine g_iload_n X dL_build_60 rfl ?_
        refine g_bipush (v := 115) X dL_build_61 (by decide) ?_
        refine g_iconst (v := 4) X dL_build_63 (by decide) ?_
        refine g_iconst (v := 0) X dL_build_64 (by decide) ?_
        refine g_iconst (v := 0) X dL_build_65 (by decide) ?_
        refine g_callS X lm_L_167 (b_1 G hL hB h2 (by omega) hcl hnb (by decide) (by decide) (by decide) (by decide) (Or.inl ⟨rfl, rfl, rfl⟩)) rfl rfl (Nat.le_of_ble_eq_true rfl) (by rw [RM]; exact ⟨Nat.le_of_ble_eq_true rfl, Nat.le_of_ble_eq_true rfl⟩) (by rw [RM]; show _ + _ ≤ 200 ∧ _ + _ ≤ 2000; omega) dL_build_66 (fun v hz q => ?_) (fun _ _ q => q.elim)
        obtain ⟨x66, rfl, P66, hL, hB, hnb, hcl, hbb⟩ := q
        refine GJ.seq (st' := [.int x66]) rfl ?_
        replace hb : ∀ r2, r2 < r → 4 ≤ pnB P66 r2 := fun r2 hr2 => by rw [hbb r2 (by omega)]; exact hb r2 hr2
        refine g_pop X dL_build_69 rfl ?_
        refine g_iconst (v := 1) X dL_build_70 (by decide) ?_
        refine g_istore (lv' := [(5, .int 1), (4, .int 0), (3, .int x54), (2, .int x2), (1, .ref t0), (0, .ref a)]) X dL_build_71 (by decide) rfl ?_
        refine L2 (3 + j51) r 1 (3 + j51) _ _ (kk + 30) (nn + 400) x2 x54 0 1 P66 _ hL hB hr hcl hnb hb h2 (show x54 = nI (3 + j51) by rw [e54, e51, show (3 : Int32) = nI 3 from rfl, nI_add]) rfl (by omega) (by omega) (by omega) (by omega) (by omega) (fun kk2 nn2 P2 h2g g1 g2 hL hB hb => ?_)
        refine g_aload_n X dL_build_242 rfl ?_
        refine g_iconst (v := 2) X dL_build_243 (by decide) ?_
        refine g_iload_n X dL_build_244 rfl ?_
        refine g_iconst (v := 0) X dL_build_245 (by decide) ?_
        refine g_callS X lm_L_179 (b_2 G hL hB h2 (by omega)) rfl rfl (Nat.le_of_ble_eq_true rfl) (by rw [RM]; exact ⟨Nat.le_of_ble_eq_true rfl, Nat.le_of_ble_eq_true rfl⟩) (by rw [RM]; show _ + _ ≤ 200 ∧ _ + _ ≤ 2000; omega) dL_build_246 (fun v hz q => ?_) (fun _ _ q => q.elim)
        obtain ⟨x246, rfl, P246, hL, hB, hbb⟩ := q
        refine GJ.seq (st' := [.int x246]) rfl ?_
        refine g_pop X dL_build_249 rfl ?_
        refine g_aload_n X dL_build_250 rfl ?_
        refine g_iconst (v := 3) X dL_build_251 (by decide) ?_
        refine g_iload_n X dL_build_252 rfl ?_
        refine g_iconst (v := 1) X dL_build_253 (by decide) ?_
        refine g_aload_n X dL_build_254 rfl ?_
        refine g_sipush (v := 130) X dL_build_255 (by decide) ?_
        refine g_iload_n X dL_build_258 rfl ?_
        refine g_iadd X dL_build_259 (fun x259 e259 => ?_)
        refine g_bipush (v := 8) X dL_build_260 (by decide) ?_
        have i262 : x259 = nI (130 + r) := by rw [e259, h2, show (130 : Int32) = nI 130 from rfl, nI_add]
        refine GJ.seq (st' := [.int (nI 8), .int (nI (130 + r)), .ref t0, .int 1, .int x2, .int 3, .ref a]) (by rw [i262]; first | done | rfl) ?_
        refine g_callSA X hA lm_L_163 (c_L_pick G (i := (130 + r)) (m := 8) (by omega) hN (by decide) (by decide)) rfl rfl (Nat.le_of_ble_eq_true rfl) (by rw [RM]; exact ⟨Nat.le_of_ble_eq_true rfl, Nat.le_of_ble_eq_true rfl⟩) (by rw [RM]; show _ + _ ≤ 200 ∧ _ + _ ≤ 2000; omega) dL_build_262 (fun v hz q => ?_) (fun _ _ q => q.elim)
        obtain ⟨x262, rfl, ⟨j262, hj262, e262⟩, rfl⟩ := q
        refine GJ.seq (st' := [.int x262, .int 1, .int x2, .int 3, .ref a]) rfl ?_
        refine g_iadd X dL_build_265 (fun x265 e265 => ?_)
        refine g_callS X lm_L_179 (b_3 G hL hB h2 (by omega) (show x265 = nI (1 + j262) by rw [e265, e262, show (1 : Int32) = nI 1 from rfl, nI_add]) (by omega)) rfl rfl (Nat.le_of_ble_eq_true rfl) (by rw [RM]; exact ⟨Nat.le_of_ble_eq_true rfl, Nat.le_of_ble_eq_true rfl⟩) (by rw [RM]; show _ + _ ≤ 200 ∧ _ + _ ≤ 2000; omega) dL_build_266 (fun v hz q => ?_) (fun _ _ q => q.elim)
        obtain ⟨x266, rfl, P266, hL, hB, hbb2⟩ := q
        refine GJ.seq (st' := [.int x266]) rfl ?_
        refine g_pop X dL_build_269 rfl ?_
        refine gp_iinc 0 X dL_build_270 rfl (by decide) (fun x270 e270 => ?_)
        refine GJ.leq (lv' := [(2, .int x270), (1, .ref t0), (0, .ref a)]) rfl ?_
        refine g_goto 2 X dL_build_273 (by decide) ?_
        exact ih (r + 1) _ _ x270 P266 _ hL hB (fun r2 hr2 => by rw [hbb2, hbb]; exact hb r2 hr2) (by omega) (by omega) (by rw [e270, h2]; exact nI_1 r)
  refine g_iconst (v := 0) X dL_build_0 (by decide) ?_
  refine g_istore_n (lv' := [(2, .int 0), (0, .ref a), (1, .ref t0)]) X dL_build_1 (by decide) rfl ?_
  refine GJ.pick [0, 2, 1] rfl ?_
  exact L1 2 0 _ _ 0 P _ hL hB (fun r2 hr2 => absurd hr2 (Nat.not_lt_zero _)) rfl (by omega) rfl
end GBUILD2
