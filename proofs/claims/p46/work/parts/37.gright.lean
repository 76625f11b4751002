/-! areGuestsRight: its contract -/
section GRIGHT
variable {Z : gEnv} {h : gH} {B O : Int64} {t : Int32} {a : Nat} {P : gP}
theorem l_guests (G : gG Z) (hL : LR Z a P h) : gMet Z yX6_guests cX6_guests 1 (some .int) 1 0 0 [.ref a] h (qI h (fun z => z = nI (pnG P))) qN := by
  obtain ⟨ad, rfl, hR⟩ := hL
  exact c_X6_guests G hR
theorem l_ticks (G : gG Z) (hL : LR Z a P h) : gMet Z yX6_ticks cX6_ticks 1 (some .int) 1 0 0 [.ref a] h (qI h (fun z => z = pI P 6 0 0 7)) qN := by
  obtain ⟨ad, rfl, hR⟩ := hL
  exact c_X6_ticks G hR
theorem l_till (G : gG Z) (hL : LR Z a P h) : gMet Z yX6_till cX6_till 1 (some .long) 1 0 0 [.ref a] h (qL h (fun z => z = pJ P 11)) qN := by
  obtain ⟨ad, rfl, hR⟩ := hL
  exact c_X6_till G hR
theorem l_allMoney (G : gG Z) (hL : LR Z a P h) : gMet Z yX6_allMoney cX6_allMoney 1 (some .long) 2 0 0 [.ref a] h (qL h (fun z => z = fMI P 60 0 0 + pJ P 11)) qN := by
  obtain ⟨ad, rfl, hR⟩ := hL
  exact c_X6_allMoney G hR
/-- the money of those who are in -/
def fIns (P : gP) (m : Nat → Nat) (j : Nat) : Nat := if j < pnG P then wIn P m j else 0
theorem fMI_sum {m : Nat → Nat} (hm : ∀ g, g < pnG P → pI P 1 g 0 0 = nI (m g) ∧ m g ≤ 59940) : ∀ n k, fMI P n k (lN (sumN k (fIns P m))) = lN (sumN (k + n) (fIns P m))
  | 0, _ => rfl
  | n + 1, k => by
    unfold fMI
    have e : (if k < pnG P ∧ ¬ pI P 1 k 0 6 = 111 then lN (sumN k (fIns P m)) + (pI P 1 k 0 0).toInt64 else lN (sumN k (fIns P m))) = lN (sumN (k + 1) (fIns P m)) := by
      show _ = lN (sumN k (fIns P m) + fIns P m k)
      unfold fIns wIn
      by_cases e1 : k < pnG P
      · by_cases e2 : pI P 1 k 0 6 = 111
        · rw [if_neg (fun e => e.2 e2), if_pos e1, if_pos e2]; rfl
        · rw [if_pos ⟨e1, e2⟩, if_pos e1, if_neg e2, (hm k e1).1, nI_l (by have := (hm k e1).2; omega), lN_add]
      · rw [if_neg (fun e => e1 e.1), if_neg e1]; rfl
    rw [e, fMI_sum hm n (k + 1)]
    congr 2
    omega
theorem fIns_cut {m : Nat → Nat} : ∀ d, sumN (pnG P + d) (fIns P m) = sumN (pnG P) (wIn P m)
  | 0 => sumN_ext (fun j hj => if_pos hj)
  | d + 1 => by
    show sumN (pnG P + d) (fIns P m) + fIns P m (pnG P + d) = _
    rw [fIns_cut d, show fIns P m (pnG P + d) = 0 from if_neg (by omega)]
    rfl
theorem fMI_is {LL RR : Nat → Nat → List Nat} {m p : Nat → Nat} (hG : pnG P ≤ 60) (hw : inW P LL RR m p) : fMI P 60 0 0 = lN (sumN (pnG P) (wIn P m)) := by
  have h1 := fMI_sum (P := P) (m := m) (fun g hg => (hw.2.1 g hg).2.1) 60 0
  have h2 := fIns_cut (P := P) (m := m) (60 - pnG P)
  rw [show pnG P + (60 - pnG P) = 0 + 60 by omega] at h2
  rw [h2] at h1
  exact h1
theorem sumN_4 {f : Nat → Nat} {n : Nat} (hn : n ≤ 4) (h : ∀ i, n ≤ i → f i = 0) : sumN n f = f 0 + f 1 + f 2 + f 3 := by
  rcases (show n = 0 ∨ n = 1 ∨ n = 2 ∨ n = 3 ∨ n = 4 by omega) with rfl | rfl | rfl | rfl | rfl
  · rw [h 0 (by omega), h 1 (by omega), h 2 (by omega), h 3 (by omega)]; rfl
  · rw [h 1 (by omega), h 2 (by omega), h 3 (by omega)]; simp [sumN]
  · rw [h 2 (by omega), h 3 (by omega)]; simp [sumN]
  · rw [h 3 (by omega)]; simp [sumN]
  · simp [sumN]
/-- those who wait, those who ride: how many in all -/
def wSum (LL : Nat → Nat → List Nat) (r : Nat) : Nat := (LL r 0).length + (LL r 1).length + (LL r 2).length
def rSum (P : gP) (RR : Nat → Nat → List Nat) (r : Nat) : Nat := sumN (pnT P r) (fun i => (RR r i).length)
theorem wait_sum {LL RR : Nat → Nat → List Nat} {m p : Nat → Nat} (h2 : pnR P = 2) (hw : inW P LL RR m p) : wSum LL 0 + wSum LL 1 = sumN (pnG P) (fun g => if pI P 1 g 0 6 = 113 then 1 else 0) := by
  have hl : ∀ r q, r < 2 → q < 3 → (LL r q).length = sumN (pnG P) (fun g => (LL r q).count g) := fun r q hr hq => sumN_len _ (hw.1.1 r q (by omega) hq).2.2.2
  unfold wSum
  rw [hl 0 0 (by omega) (by omega), hl 0 1 (by omega) (by omega), hl 0 2 (by omega) (by omega), hl 1 0 (by omega) (by omega), hl 1 1 (by omega) (by omega), hl 1 2 (by omega) (by omega), ← sumN_add, ← sumN_add, ← sumN_add, ← sumN_add, ← sumN_add]
  refine sumN_ext (fun g hg => ?_)
  rw [← (hw.2.1 g hg).2.2.2.1.1]
  have hz : ∀ r q, 2 ≤ r → LL r q = [] := fun r q hr => hw.1.2.1 r q (by omega)
  simp [ctL, hz 2 _ (by omega), hz 3 _ (by omega)]
theorem ride_sum {LL RR : Nat → Nat → List Nat} {m p : Nat → Nat} (h2 : pnR P = 2) (hT : ∀ r, r < pnR P → pnT P r ≤ 4) (hw : inW P LL RR m p) : rSum P RR 0 + rSum P RR 1 = sumN (pnG P) (fun g => if pI P 1 g 0 6 = 116 then 1 else 0) := by
  have hz : ∀ r i, ¬ (r < pnR P ∧ i < pnT P r) → RR r i = [] := hw.1.2.2.2
  have hl : ∀ r i, (RR r i).length = sumN (pnG P) (fun g => (RR r i).count g) := fun r i => by
    refine sumN_len _ (fun g hg => ?_)
    by_cases e : r < pnR P ∧ i < pnT P r
    · exact (hw.1.2.2.1 r i e.1 e.2).2.2.2 g hg
    · rw [hz r i e] at hg; exact absurd hg List.not_mem_nil
  have h4 : ∀ r, r < 2 → rSum P RR r = (RR r 0).length + (RR r 1).length + (RR r 2).length + (RR r 3).length := fun r hr => sumN_4 (hT r (by omega)) (fun i hi => by rw [hz r i (by omega)]; rfl)
  rw [h4 0 (by omega), h4 1 (by omega)]
  simp only [hl]
  rw [← sumN_add, ← sumN_add, ← sumN_add, ← sumN_add, ← sumN_add, ← sumN_add, ← sumN_add]
  refine sumN_ext (fun g hg => ?_)
  rw [← (hw.2.1 g hg).2.2.2.1.2]
  have hz2 : ∀ i, RR 2 i = [] := fun i => hz 2 i (by omega)
  have hz3 : ∀ i, RR 3 i = [] := fun i => hz 3 i (by omega)
  simp [ctR, ctT, hz2, hz3]
theorem sumN_mono {f : Nat → Nat} {a : Nat} : ∀ d, sumN a f ≤ sumN (a + d) f
  | 0 => Nat.le_refl _
  | d + 1 => Nat.le_trans (sumN_mono d) (Nat.le_add_right _ _)
theorem sumN_step {f : Nat → Nat} {a n : Nat} (h : a < n) : sumN a f + f a ≤ sumN n f := by
  have := sumN_mono (f := f) (a := a + 1) (n - (a + 1))
  rw [show a + 1 + (n - (a + 1)) = n by omega] at this
  exact this
theorem told_n {c : Bool} {w s W d : Nat} {x y z : Int32} (hx : x = nI w) (hz : z = x - y) (hy : y = nI d) (hw : w + s = W) (hd : s + d ≤ W) : ∃ w', z = nI w' ∧ w' + (s + d) = W := ⟨w - d, by rw [hz, hx, hy, pk_sub (by omega)], by omega⟩
theorem l_isSound (G : gG Z) (hL : LR Z a P h) {LL RR : Nat → Nat → List Nat} (hWt : Wit P LL RR) (hs : (∀ r, r < pnR P → ∀ i, i < pnT P r → ¬ pI P 5 r i 6 &&& (1 <<< (pI P 5 r i 3 &&& 31)) = 0 ∧ ∀ j, j < pnT P r → j ≠ i → pI P 5 r i 6 &&& pI P 5 r j 6 = 0)) (hp : (∀ g, g < pnG P → nI (ctL LL g 4) = (if pI P 1 g 0 6 = 113 then 1 else 0) ∧ nI (ctR RR g 4) = if pI P 1 g 0 6 = 116 then 1 else 0)) (hmon : pJ P 10 = fMI P 60 0 0 + pJ P 12 + pJ P 11) : gMet Z yX6_isSound cX6_isSound 5 (some .boolean) 5 0 0 [.ref a] h (qI h (fun x => x = 1)) qN := by
  obtain ⟨ad, rfl, hR⟩ := hL
  exact c_X6_isSound G hR hWt hs hp hmon
theorem lg_nneg (n : Nat) (h : n < 2 ^ 31) : ¬ lg_cmp (lN n) 0 < 0 := by
  by_cases e : n = 0
  · subst e
    rw [show lN 0 = 0 from rfl, lg_cmp_self]
    decide
  · have h0 : (0 : Int64) < lN n := (lN_lt (a := 0) (by omega) h).mpr (by omega)
    have h1 : ¬ lN n = 0 := fun e2 => e ((lN_eq (b := 0) h (by omega)).mp e2)
    unfold lg_cmp
    simp [h0, h1]
set_option maxHeartbeats 4000000 in
set_option maxRecDepth 100000 in
theorem c_L_areGuestsRight (G : gG Z) (hL : LR Z a P h) (hJ : LJ B O t P) : gMet Z yL_areGuestsRight cL_areGuestsRight 10 (some .boolean) 12 200 1300 [.ref a, .long B, .long O] h (qP Z a (fun y P2 => LJ B O t P2 ∧ y = 1)) qN := by
  refine g_enter (lv := [(0, .ref a), (1, .long B), (3, .long O)]) G.2 (by decide +kernel) (Nat.le_of_ble_eq_true rfl) rfl (fun Γ X Nt E RM => ?_)
  obtain ⟨hnn, LL, RR, m, p, hw⟩ := hJ.inv.2
  have h14 := hJ.2.1.2.1
  have hgs := hw.2.1
  have hws := wait_sum hJ.2.1.1 hw
  have hrs := ride_sum hJ.2.1.1 hnn.2.1 hw
  rw [h14] at hws hrs
  obtain ⟨b, ti, to, hj10, hj11, hj12, hb14, hbs, hps⟩ := hw.2.2
  have hmi := fMI_is hnn.2.2 hw
  have hmon : pJ P 10 = fMI P 60 0 0 + pJ P 12 + pJ P 11 := by
    rw [hmi, hj10, hj11, hj12, lN_add, lN_add, hbs]
    congr 1
    omega
  have h14b : b ≤ 13986 := by rw [h14] at hb14; omega
  have hw60 : ∀ r q, r < 2 → q < 3 → (LL r q).length ≤ 60 := fun r q hr hq => (hw.1.1 r q (hJ.r hr) hq).2.2.1
  have hr8 : ∀ r i, r < 2 → i < pnT P r → (RR r i).length ≤ 8 := fun r i hr hi => (hw.1.2.2.1 r i (hJ.r hr) hi).2.2.1
  have LC : ∀ (m : Nat) (k kk nn w5 w6 : Nat) (x8 x6 x5 : Int32) (hm : m + k = 14) (hkn : kk + m * 0 ≤ 180 ∧ nn + m * 0 ≤ 1200) (h8 : x8 = nI k) (h5 : x5 = nI w5) (h6 : x6 = nI w6) (h5w : w5 + sumN k (fun g => if pI P 1 g 0 6 = 113 then 1 else 0) = sumN 14 (fun g => if pI P 1 g 0 6 = 113 then 1 else 0)) (h6w : w6 + sumN k (fun g => if pI P 1 g 0 6 = 116 then 1 else 0) = sumN 14 (fun g => if pI P 1 g 0 6 = 116 then 1 else 0)), GJ Z Γ h kk nn 104 [(8, .int x8), (7, .int 1), (6, .int x6), (5, .int x5), (3, .long O), (1, .long B), (0, .ref a)] [] := by
    intro m
    induction m with
    | zero =>
      intro k kk nn w5 w6 x8 x6 x5 hm hkn h8 h5 h6 h5w h6w
      have hk : k = 14 := by omega
      subst hk
      have h5z : w5 = 0 := by omega
      have h6z : w6 = 0 := by omega
      subst h5z
      subst h6z
      refine g_iload X dL_areGuestsRight_104 rfl ?_
      refine g_aload_n X dL_areGuestsRight_106 rfl ?_
      obtain ⟨fs107, hb107⟩ := hL.box
      refine g_callV X lm_L_183 (l_guests G hL) cl_X6 hb107 rfl rfl (Nat.le_of_ble_eq_true rfl) (by rw [RM]; exact ⟨Nat.le_of_ble_eq_true rfl, Nat.le_of_ble_eq_true rfl⟩) (by rw [RM]; show _ + _ ≤ 200 ∧ _ + _ ≤ 1300; omega) dL_areGuestsRight_107 (fun v hz q => ?_) (fun _ _ q => q.elim)
      obtain ⟨x107, rfl, e107, rfl⟩ := q
      refine GJ.seq (st' := [.int x107, .int x8]) rfl ?_
      refine g_icmp_ge 225 X dL_areGuestsRight_110 (by decide) (fun c110 => ?_) (fun c110 => ?_)
      · skip
        refine g_iload X dL_areGuestsRight_225 rfl ?_
        refine g_if_eq 271 X dL_areGuestsRight_227 (by decide) (fun c227 => ?_) (fun c227 => ?_)
        · skip
          exact absurd c227 (by decide)
        · skip
          refine g_iload X dL_areGuestsRight_230 rfl ?_
          refine g_if_ne 271 X dL_areGuestsRight_232 (by decide) (fun c232 => ?_) (fun c232 => ?_)
          · skip
            exact absurd h5 c232
          · skip
            refine g_iload X dL_areGuestsRight_235 rfl ?_
            refine g_if_ne 271 X dL_areGuestsRight_237 (by decide) (fun c237 => ?_) (fun c237 => ?_)
            · skip
              exact absurd h6 c237
            · skip
              refine g_aload_n X dL_areGuestsRight_240 rfl ?_
              obtain ⟨fs241, hb241⟩ := hL.box
              refine g_callV X lm_L_186 (l_allMoney G hL) cl_X6 hb241 rfl rfl (Nat.le_of_ble_eq_true rfl) (by rw [RM]; exact ⟨Nat.le_of_ble_eq_true rfl, Nat.le_of_ble_eq_true rfl⟩) (by rw [RM]; show _ + _ ≤ 200 ∧ _ + _ ≤ 1300; omega) dL_areGuestsRight_241 (fun v hz q => ?_) (fun _ _ q => q.elim)
              obtain ⟨x241, rfl, e241, rfl⟩ := q
              refine GJ.seq (st' := [.long x241]) rfl ?_
              refine g_lload_n X dL_areGuestsRight_244 rfl ?_
              refine g_ladd X dL_areGuestsRight_245 (fun x245 e245 => ?_)
              refine g_lload_n X dL_areGuestsRight_246 rfl ?_
              refine g_lcmp X dL_areGuestsRight_247 (fun x247 e247 => ?_)
              refine g_if_ne 271 X dL_areGuestsRight_248 (by decide) (fun c248 => ?_) (fun c248 => ?_)
              · skip
                exact absurd (by rw [e247, e245, e241, show B = pJ P 10 from hJ.2.2.1.symm, hmon, hJ.2.2.2.1.symm, Int64.add_assoc, Int64.add_comm (pJ P 11), ← Int64.add_assoc]; exact lg_cmp_self _) c248
              · skip
                refine g_aload_n X dL_areGuestsRight_251 rfl ?_
                obtain ⟨fs252, hb252⟩ := hL.box
                refine g_callV X lm_L_190 (l_till G hL) cl_X6 hb252 rfl rfl (Nat.le_of_ble_eq_true rfl) (by rw [RM]; exact ⟨Nat.le_of_ble_eq_true rfl, Nat.le_of_ble_eq_true rfl⟩) (by rw [RM]; show _ + _ ≤ 200 ∧ _ + _ ≤ 1300; omega) dL_areGuestsRight_252 (fun v hz q => ?_) (fun _ _ q => q.elim)
                obtain ⟨x252, rfl, e252, rfl⟩ := q
                refine GJ.seq (st' := [.long x252]) rfl ?_
                refine g_lconst (v := 0) X dL_areGuestsRight_255 (by decide) ?_
                refine g_lcmp X dL_areGuestsRight_256 (fun x256 e256 => ?_)
                refine g_if_lt 271 X dL_areGuestsRight_257 (by decide) (fun c257 => ?_) (fun c257 => ?_)
                · skip
                  exact absurd c257 (by rw [e256, e252, hj11]; exact lg_nneg ti (by omega))
                · skip
                  refine g_aload_n X dL_areGuestsRight_260 rfl ?_
                  obtain ⟨fs261, hb261⟩ := hL.box
                  refine g_callV X lm_L_193 (l_isSound G hL hw.1 hJ.inv.1.holds (fun g hg => by rw [(hgs g hg).2.2.2.1.1, (hgs g hg).2.2.2.1.2]; refine ⟨?_, ?_⟩ <;> split <;> rfl) hmon) cl_X6 hb261 rfl rfl (Nat.le_of_ble_eq_true rfl) (by rw [RM]; exact ⟨Nat.le_of_ble_eq_true rfl, Nat.le_of_ble_eq_true rfl⟩) (by rw [RM]; show _ + _ ≤ 200 ∧ _ + _ ≤ 1300; omega) dL_areGuestsRight_261 (fun v hz q => ?_) (fun _ _ q => q.elim)
                  obtain ⟨x261, rfl, e261, rfl⟩ := q
                  refine GJ.seq (st' := [.int x261]) rfl ?_
                  refine g_if_eq 271 X dL_areGuestsRight_264 (by decide) (fun c264 => ?_) (fun c264 => ?_)
                  · skip
                    exact absurd c264 (by rw [e261]; decide)
                  · skip
                    refine g_iconst (v := 1) X dL_areGuestsRight_267 (by decide) ?_
                    refine g_goto 272 X dL_areGuestsRight_268 (by decide) ?_
                    refine g_ireturn X E (by decide) dL_areGuestsRight_272 (by omega) (by omega) ?_
                    exact ⟨_, rfl, P, hL, hJ, rfl⟩
      · skip
        exact absurd c110 (by rw [h8, e107, h14]; exact nI_nlt (Nat.le_refl _) (by omega))
    | succ m ih =>
      intro k kk nn w5 w6 x8 x6 x5 hm hkn h8 h5 h6 h5w h6w
      have hk : k < 14 := by omega
      have hgk := hgs k (hJ.g hk)
      refine g_iload X dL_areGuestsRight_104 rfl ?_
      refine g_aload_n X dL_areGuestsRight_106 rfl ?_
      obtain ⟨fs107, hb107⟩ := hL.box
      refine g_callV X lm_L_183 (l_guests G hL) cl_X6 hb107 rfl rfl (Nat.le_of_ble_eq_true rfl) (by rw [RM]; exact ⟨Nat.le_of_ble_eq_true rfl, Nat.le_of_ble_eq_true rfl⟩) (by rw [RM]; show _ + _ ≤ 200 ∧ _ + _ ≤ 1300; omega) dL_areGuestsRight_107 (fun v hz q => ?_) (fun _ _ q => q.elim)
      obtain ⟨x107, rfl, e107, rfl⟩ := q
      refine GJ.seq (st' := [.int x107, .int x8]) rfl ?_
      refine g_icmp_ge 225 X dL_areGuestsRight_110 (by decide) (fun c110 => ?_) (fun c110 => ?_)
      · skip
        exact absurd (by rw [h8, e107, h14]; exact nI_lt hk (by omega)) c110
      · skip
        refine g_aload_n X dL_areGuestsRight_113 rfl ?_
        refine g_bipush (v := 40) X dL_areGuestsRight_114 (by decide) ?_
        refine g_iload X dL_areGuestsRight_116 rfl ?_
        refine g_iconst (v := 0) X dL_areGuestsRight_118 (by decide) ?_
        refine g_callS X lm_L_179 (a_40 G hL hJ.inv (g := k) h8 (hJ.g hk)) rfl rfl (Nat.le_of_ble_eq_true rfl) (by rw [RM]; exact ⟨Nat.le_of_ble_eq_true rfl, Nat.le_of_ble_eq_true rfl⟩) (by rw [RM]; show _ + _ ≤ 200 ∧ _ + _ ≤ 1300; omega) dL_areGuestsRight_119 (fun v hz q => ?_) (fun _ _ q => q.elim)
        obtain ⟨x119, rfl, e119, rfl⟩ := q
        refine GJ.seq (st' := [.int x119]) rfl ?_
        refine g_istore (lv' := [(9, .int x119), (8, .int x8), (7, .int 1), (6, .int x6), (5, .int x5), (3, .long O), (1, .long B), (0, .ref a)]) X dL_areGuestsRight_122 (by decide) rfl ?_
        refine g_iload X dL_areGuestsRight_124 rfl ?_
        refine g_iload X dL_areGuestsRight_126 rfl ?_
        refine g_bipush (v := 113) X dL_areGuestsRight_128 (by decide) ?_
        refine g_icmp_ne 137 X dL_areGuestsRight_130 (by decide) (fun c130 => ?_) (fun c130 => ?_)
        · skip
          refine g_iconst (v := 0) X dL_areGuestsRight_137 (by decide) ?_
          refine g_callS X lm_L_62 (g_told G) rfl rfl (Nat.le_of_ble_eq_true rfl) (by rw [RM]; exact ⟨Nat.le_of_ble_eq_true rfl, Nat.le_of_ble_eq_true rfl⟩) (by rw [RM]; show _ + _ ≤ 200 ∧ _ + _ ≤ 1300; omega) dL_areGuestsRight_138 (fun v hz q => ?_) (fun _ _ q => q.elim)
          obtain ⟨x138, rfl, e138, rfl⟩ := q
          refine GJ.seq (st' := [.int x138, .int x5]) rfl ?_
          refine g_isub X dL_areGuestsRight_141 (fun x141 e141 => ?_)
          obtain ⟨w5b, h5b, h5wb⟩ := told_n (c := true) (d := if pI P 1 k 0 6 = 113 then 1 else 0) h5 e141 (by rw [e138]; first | rw [if_pos (e119.symm.trans c130)]; rfl | rw [if_neg (fun e => c130 (e119.trans e))]; rfl) h5w (sumN_step (f := fun g => if pI P 1 g 0 6 = 113 then 1 else 0) hk)
          refine g_istore (lv' := [(5, .int x141), (9, .int x119), (8, .int x8), (7, .int 1), (6, .int x6), (3, .long O), (1, .long B), (0, .ref a)]) X dL_areGuestsRight_142 (by decide) rfl ?_
          refine g_iload X dL_areGuestsRight_144 rfl ?_
          refine g_iload X dL_areGuestsRight_146 rfl ?_
          refine g_bipush (v := 116) X dL_areGuestsRight_148 (by decide) ?_
          refine g_icmp_ne 157 X dL_areGuestsRight_150 (by decide) (fun c150 => ?_) (fun c150 => ?_)
          · skip
            refine g_iconst (v := 0) X dL_areGuestsRight_157 (by decide) ?_
            refine g_callS X lm_L_62 (g_told G) rfl rfl (Nat.le_of_ble_eq_true rfl) (by rw [RM]; exact ⟨Nat.le_of_ble_eq_true rfl, Nat.le_of_ble_eq_true rfl⟩) (by rw [RM]; show _ + _ ≤ 200 ∧ _ + _ ≤ 1300; omega) dL_areGuestsRight_158 (fun v hz q => ?_) (fun _ _ q => q.elim)
            obtain ⟨x158, rfl, e158, rfl⟩ := q
            refine GJ.seq (st' := [.int x158, .int x6]) rfl ?_
            refine g_isub X dL_areGuestsRight_161 (fun x161 e161 => ?_)
            obtain ⟨w6b, h6b, h6wb⟩ := told_n (c := true) (d := if pI P 1 k 0 6 = 116 then 1 else 0) h6 e161 (by rw [e158]; first | rw [if_pos (e119.symm.trans c150)]; rfl | rw [if_neg (fun e => c150 (e119.trans e))]; rfl) h6w (sumN_step (f := fun g => if pI P 1 g 0 6 = 116 then 1 else 0) hk)
            refine g_istore (lv' := [(6, .int x161), (5, .int x141), (9, .int x119), (8, .int x8), (7, .int 1), (3, .long O), (1, .long B), (0, .ref a)]) X dL_areGuestsRight_162 (by decide) rfl ?_
            refine g_iload X dL_areGuestsRight_164 rfl ?_
            refine g_if_eq 216 X dL_areGuestsRight_166 (by decide) (fun c166 => ?_) (fun c166 => ?_)
            · skip
              exact absurd c166 (by decide)
            · skip
              refine g_aload_n X dL_areGuestsRight_169 rfl ?_
              refine g_bipush (v := 41) X dL_areGuestsRight_170 (by decide) ?_
              refine g_iload X dL_areGuestsRight_172 rfl ?_
              refine g_bipush (v := 109) X dL_areGuestsRight_174 (by decide) ?_
              refine g_callS X lm_L_179 (a_41 G hL hJ.inv (g := k) h8 (hJ.g hk) (Or.inl rfl)) rfl rfl (Nat.le_of_ble_eq_true rfl) (by rw [RM]; exact ⟨Nat.le_of_ble_eq_true rfl, Nat.le_of_ble_eq_true rfl⟩) (by rw [RM]; show _ + _ ≤ 200 ∧ _ + _ ≤ 1300; omega) dL_areGuestsRight_176 (fun v hz q => ?_) (fun _ _ q => q.elim)
              obtain ⟨x176, rfl, e176, rfl⟩ := q
              refine GJ.seq (st' := [.int x176]) rfl ?_
              refine g_if_lt 216 X dL_areGuestsRight_179 (by decide) (fun c179 => ?_) (fun c179 => ?_)
              · skip
                exact absurd c179 (by rw [e176]; show ¬ pI P 1 k 0 0 < 0; rw [hgk.2.1.1]; exact nI_pos (by have := hgk.2.1.2; omega))
              · skip
                refine g_aload_n X dL_areGuestsRight_182 rfl ?_
                refine g_bipush (v := 41) X dL_areGuestsRight_183 (by decide) ?_
                refine g_iload X dL_areGuestsRight_185 rfl ?_
                refine g_bipush (v := 110) X dL_areGuestsRight_187 (by decide) ?_
                refine g_callS X lm_L_179 (a_41 G hL hJ.inv (g := k) h8 (hJ.g hk) (Or.inr (Or.inr rfl))) rfl rfl (Nat.le_of_ble_eq_true rfl) (by rw [RM]; exact ⟨Nat.le_of_ble_eq_true rfl, Nat.le_of_ble_eq_true rfl⟩) (by rw [RM]; show _ + _ ≤ 200 ∧ _ + _ ≤ 1300; omega) dL_areGuestsRight_189 (fun v hz q => ?_) (fun _ _ q => q.elim)
                obtain ⟨x189, rfl, e189, rfl⟩ := q
                refine GJ.seq (st' := [.int x189]) rfl ?_
                refine g_bipush (v := 99) X dL_areGuestsRight_192 (by decide) ?_
                refine g_icmp_gt 216 X dL_areGuestsRight_194 (by decide) (fun c194 => ?_) (fun c194 => ?_)
                · skip
                  exact absurd c194 (by rw [e189]; exact hgk.2.2.1.2)
                · skip
                  refine g_aload_n X dL_areGuestsRight_197 rfl ?_
                  refine g_bipush (v := 41) X dL_areGuestsRight_198 (by decide) ?_
                  refine g_iload X dL_areGuestsRight_200 rfl ?_
                  refine g_bipush (v := 104) X dL_areGuestsRight_202 (by decide) ?_
                  refine g_callS X lm_L_179 (a_41 G hL hJ.inv (g := k) h8 (hJ.g hk) (Or.inr (Or.inl rfl))) rfl rfl (Nat.le_of_ble_eq_true rfl) (by rw [RM]; exact ⟨Nat.le_of_ble_eq_true rfl, Nat.le_of_ble_eq_true rfl⟩) (by rw [RM]; show _ + _ ≤ 200 ∧ _ + _ ≤ 1300; omega) dL_areGuestsRight_204 (fun v hz q => ?_) (fun _ _ q => q.elim)
                  obtain ⟨x204, rfl, e204, rfl⟩ := q
                  refine GJ.seq (st' := [.int x204]) rfl ?_
                  refine g_bipush (v := 99) X dL_areGuestsRight_207 (by decide) ?_
                  refine g_icmp_gt 216 X dL_areGuestsRight_209 (by decide) (fun c209 => ?_) (fun c209 => ?_)
                  · skip
                    exact absurd c209 (by rw [e204]; show ¬ 99 < pI P 1 k 0 3; obtain ⟨n, hn, e⟩ := hgk.2.2.1.1; rw [e]; exact nI_nlt (a := 99) hn (by omega))
                  · skip
                    refine g_iconst (v := 1) X dL_areGuestsRight_212 (by decide) ?_
                    refine g_goto 217 X dL_areGuestsRight_213 (by decide) ?_
                    refine g_istore (lv' := [(7, .int 1), (6, .int x161), (5, .int x141), (9, .int x119), (8, .int x8), (3, .long O), (1, .long B), (0, .ref a)]) X dL_areGuestsRight_217 (by decide) rfl ?_
                    refine gp_iinc 4 X dL_areGuestsRight_219 rfl (by decide) (fun x219 e219 => ?_)
                    refine GJ.leq (lv' := [(8, .int x219), (7, .int 1), (6, .int x161), (5, .int x141), (9, .int x119), (3, .long O), (1, .long B), (0, .ref a)]) rfl ?_
                    refine g_goto 104 X dL_areGuestsRight_222 (by decide) ?_
                    refine GJ.pick [0, 1, 2, 3, 5, 6, 7] rfl ?_
                    exact ih (k + 1) _ _ w5b w6b _ _ _ (by omega) (by omega) (by rw [e219, h8]; exact nI_1 k) h5b h6b h5wb h6wb
          · skip
            refine g_iconst (v := 1) X dL_areGuestsRight_153 (by decide) ?_
            refine g_goto 158 X dL_areGuestsRight_154 (by decide) ?_
            refine g_callS X lm_L_62 (g_told G) rfl rfl (Nat.le_of_ble_eq_true rfl) (by rw [RM]; exact ⟨Nat.le_of_ble_eq_true rfl, Nat.le_of_ble_eq_true rfl⟩) (by rw [RM]; show _ + _ ≤ 200 ∧ _ + _ ≤ 1300; omega) dL_areGuestsRight_158 (fun v hz q => ?_) (fun _ _ q => q.elim)
            obtain ⟨x158, rfl, e158, rfl⟩ := q
            refine GJ.seq (st' := [.int x158, .int x6]) rfl ?_
            refine g_isub X dL_areGuestsRight_161 (fun x161 e161 => ?_)
            obtain ⟨w6b, h6b, h6wb⟩ := told_n (c := true) (d := if pI P 1 k 0 6 = 116 then 1 else 0) h6 e161 (by rw [e158]; first | rw [if_pos (e119.symm.trans c150)]; rfl | rw [if_neg (fun e => c150 (e119.trans e))]; rfl) h6w (sumN_step (f := fun g => if pI P 1 g 0 6 = 116 then 1 else 0) hk)
            refine g_istore (lv' := [(6, .int x161), (5, .int x141), (9, .int x119), (8, .int x8), (7, .int 1), (3, .long O), (1, .long B), (0, .ref a)]) X dL_areGuestsRight_162 (by decide) rfl ?_
            refine g_iload X dL_areGuestsRight_164 rfl ?_
            refine g_if_eq 216 X dL_areGuestsRight_166 (by decide) (fun c166 => ?_) (fun c166 => ?_)
            · skip
              exact absurd c166 (by decide)
            · skip
              refine g_aload_n X dL_areGuestsRight_169 rfl ?_
              refine g_bipush (v := 41) X dL_areGuestsRight_170 (by decide) ?_
              refine g_iload X dL_areGuestsRight_172 rfl ?_
              refine g_bipush (v := 109) X dL_areGuestsRight_174 (by decide) ?_
              refine g_callS X lm_L_179 (a_41 G hL hJ.inv (g := k) h8 (hJ.g hk) (Or.inl rfl)) rfl rfl (Nat.le_of_ble_eq_true rfl) (by rw [RM]; exact ⟨Nat.le_of_ble_eq_true rfl, Nat.le_of_ble_eq_true rfl⟩) (by rw [RM]; show _ + _ ≤ 200 ∧ _ + _ ≤ 1300; omega) dL_areGuestsRight_176 (fun v hz q => ?_) (fun _ _ q => q.elim)
              obtain ⟨x176, rfl, e176, rfl⟩ := q
              refine GJ.seq (st' := [.int x176]) rfl ?_
              refine g_if_lt 216 X dL_areGuestsRight_179 (by decide) (fun c179 => ?_) (fun c179 => ?_)
              · skip
                exact absurd c179 (by rw [e176]; show ¬ pI P 1 k 0 0 < 0; rw [hgk.2.1.1]; exact nI_pos (by have := hgk.2.1.2; omega))
              · skip
                refine g_aload_n X dL_areGuestsRight_182 rfl ?_
                refine g_bipush (v := 41) X dL_areGuestsRight_183 (by decide) ?_
                refine g_iload X dL_areGuestsRight_185 rfl ?_
                refine g_bipush (v := 110) X dL_areGuestsRight_187 (by decide) ?_
                refine g_callS X lm_L_179 (a_41 G hL hJ.inv (g := k) h8 (hJ.g hk) (Or.inr (Or.inr rfl))) rfl rfl (Nat.le_of_ble_eq_true rfl) (by rw [RM]; exact ⟨Nat.le_of_ble_eq_true rfl, Nat.le_of_ble_eq_true rfl⟩) (by rw [RM]; show _ + _ ≤ 200 ∧ _ + _ ≤ 1300; omega) dL_areGuestsRight_189 (fun v hz q => ?_) (fun _ _ q => q.elim)
                obtain ⟨x189, rfl, e189, rfl⟩ := q
                refine GJ.seq (st' := [.int x189]) rfl ?_
                refine g_bipush (v := 99) X dL_areGuestsRight_192 (by decide) ?_
                refine g_icmp_gt 216 X dL_areGuestsRight_194 (by decide) (fun c194 => ?_) (fun c194 => ?_)
                · skip
                  exact absurd c194 (by rw [e189]; exact hgk.2.2.1.2)
                · skip
                  refine g_aload_n X dL_areGuestsRight_197 rfl ?_
                  refine g_bipush (v := 41) X dL_areGuestsRight_198 (by decide) ?_
                  refine g_iload X dL_areGuestsRight_200 rfl ?_
                  refine g_bipush (v := 104) X dL_areGuestsRight_202 (by decide) ?_
                  refine g_callS X lm_L_179 (a_41 G hL hJ.inv (g := k) h8 (hJ.g hk) (Or.inr (Or.inl rfl))) rfl rfl (Nat.le_of_ble_eq_true rfl) (by rw [RM]; exact ⟨Nat.le_of_ble_eq_true rfl, Nat.le_of_ble_eq_true rfl⟩) (by rw [RM]; show _ + _ ≤ 200 ∧ _ + _ ≤ 1300; omega) dL_areGuestsRight_204 (fun v hz q => ?_) (fun _ _ q => q.elim)
                  obtain ⟨x204, rfl, e204, rfl⟩ := q
                  refine GJ.seq (st' := [.int x204]) rfl ?_
                  refine g_bipush (v := 99) X dL_areGuestsRight_207 (by decide) ?_
                  refine g_icmp_gt 216 X dL_areGuestsRight_209 (by decide) (fun c209 => ?_) (fun c209 => ?_)
                  · skip
                    exact absurd c209 (by rw [e204]; show ¬ 99 < pI P 1 k 0 3; obtain ⟨n, hn, e⟩ := hgk.2.2.1.1; rw [e]; exact nI_nlt (a := 99) hn (by omega))
                  · skip
                    refine g_iconst (v := 1) X dL_areGuestsRight_212 (by decide) ?_
                    refine g_goto 217 X dL_areGuestsRight_213 (by decide) ?_
                    refine g_istore (lv' := [(7, .int 1), (6, .int x161), (5, .int x141), (9, .int x119), (8, .int x8), (3, .long O), (1, .long B), (0, .ref a)]) X dL_areGuestsRight_217 (by decide) rfl ?_
                    refine gp_iinc 4 X dL_areGuestsRight_219 rfl (by decide) (fun x219 e219 => ?_)
                    refine GJ.leq (lv' := [(8, .int x219), (7, .int 1), (6, .int x161), (5, .int x141), (9, .int x119), (3, .long O), (1, .long B), (0, .ref a)]) rfl ?_
                    refine g_goto 104 X dL_areGuestsRight_222 (by decide) ?_
                    refine GJ.pick [0, 1, 2, 3, 5, 6, 7] rfl ?_
                    exact ih (k + 1) _ _ w5b w6b _ _ _ (by omega) (by omega) (by rw [e219, h8]; exact nI_1 k) h5b h6b h5wb h6wb
        · skip
          refine g_iconst (v := 1) X dL_areGuestsRight_133 (by decide) ?_
          refine g_goto 138 X dL_areGuestsRight_134 (by decide) ?_
          refine g_callS X lm_L_62 (g_told G) rfl rfl (Nat.le_of_ble_eq_true rfl) (by rw [RM]; exact ⟨Nat.le_of_ble_eq_true rfl, Nat.le_of_ble_eq_true rfl⟩) (by rw [RM]; show _ + _ ≤ 200 ∧ _ + _ ≤ 1300; omega) dL_areGuestsRight_138 (fun v hz q => ?_) (fun _ _ q => q.elim)
          obtain ⟨x138, rfl, e138, rfl⟩ := q
          refine GJ.seq (st' := [.int x138, .int x5]) rfl ?_
          refine g_isub X dL_areGuestsRight_141 (fun x141 e141 => ?_)
          obtain ⟨w5b, h5b, h5wb⟩ := told_n (c := true) (d := if pI P 1 k 0 6 = 113 then 1 else 0) h5 e141 (by rw [e138]; first | rw [if_pos (e119.symm.trans c130)]; rfl | rw [if_neg (fun e => c130 (e119.trans e))]; rfl) h5w (sumN_step (f := fun g => if pI P 1 g 0 6 = 113 then 1 else 0) hk)
          refine g_istore (lv' := [(5, .int x141), (9, .int x119), (8, .int x8), (7, .int 1), (6, .int x6), (3, .long O), (1, .long B), (0, .ref a)]) X dL_areGuestsRight_142 (by decide) rfl ?_
          refine g_iload X dL_areGuestsRight_144 rfl ?_
          refine g_iload X dL_areGuestsRight_146 rfl ?_
          refine g_bipush (v := 116) X dL_areGuestsRight_148 (by decide) ?_
          refine g_icmp_ne 157 X dL_areGuestsRight_150 (by decide) (fun c150 => ?_) (fun c150 => ?_)
          · skip
            refine g_iconst (v := 0) X dL_areGuestsRight_157 (by decide) ?_
            refine g_callS X lm_L_62 (g_told G) rfl rfl (Nat.le_of_ble_eq_true rfl) (by rw [RM]; exact ⟨Nat.le_of_ble_eq_true rfl, Nat.le_of_ble_eq_true rfl⟩) (by rw [RM]; show _ + _ ≤ 200 ∧ _ + _ ≤ 1300; omega) dL_areGuestsRight_158 (fun v hz q => ?_) (fun _ _ q => q.elim)
            obtain ⟨x158, rfl, e158, rfl⟩ := q
            refine GJ.seq (st' := [.int x158, .int x6]) rfl ?_
            refine g_isub X dL_areGuestsRight_161 (fun x161 e161 => ?_)
            obtain ⟨w6b, h6b, h6wb⟩ := told_n (c := true) (d := if pI P 1 k 0 6 = 116 then 1 else 0) h6 e161 (by rw [e158]; first | rw [if_pos (e119.symm.trans c150)]; rfl | rw [if_neg (fun e => c150 (e119.trans e))]; rfl) h6w (sumN_step (f := fun g => if pI P 1 g 0 6 = 116 then 1 else 0) hk)
            refine g_istore (lv' := [(6, .int x161), (5, .int x141), (9, .int x119), (8, .int x8), (7, .int 1), (3, .long O), (1, .long B), (0, .ref a)]) X dL_areGuestsRight_162 (by decide) rfl ?_
            refine g_iload X dL_areGuestsRight_164 rfl ?_
            refine g_if_eq 216 X dL_areGuestsRight_166 (by decide) (fun c166 => ?_) (fun c166 => ?_)
            · skip
              exact absurd c166 (by decide)
            · skip
              refine g_aload_n X dL_areGuestsRight_169 rfl ?_
              refine g_bipush (v := 41) X dL_areGuestsRight_170 (by decide) ?_
              refine g_iload X dL_areGuestsRight_172 rfl ?_
              refine g_bipush (v := 109) X dL_areGuestsRight_174 (by decide) ?_
              refine g_callS X lm_L_179 (a_41 G hL hJ.inv (g := k) h8 (hJ.g hk) (Or.inl rfl)) rfl rfl (Nat.le_of_ble_eq_true rfl) (by rw [RM]; exact ⟨Nat.le_of_ble_eq_true rfl, Nat.le_of_ble_eq_true rfl⟩) (by rw [RM]; show _ + _ ≤ 200 ∧ _ + _ ≤ 1300; omega) dL_areGuestsRight_176 (fun v hz q => ?_) (fun _ _ q => q.elim)
              obtain ⟨x176, rfl, e176, rfl⟩ := q
              refine GJ.seq (st' := [.int x176]) rfl ?_
              refine g_if_lt 216 X dL_areGuestsRight_179 (by decide) (fun c179 => ?_) (fun c179 => ?_)
              · skip
                exact absurd c179 (by rw [e176]; show ¬ pI P 1 k 0 0 < 0; rw [hgk.2.1.1]; exact nI_pos (by have := hgk.2.1.2; omega))
              · skip
                refine g_aload_n X dL_areGuestsRight_182 rfl ?_
                refine g_bipush (v := 41) X dL_areGuestsRight_183 (by decide) ?_
                refine g_iload X dL_areGuestsRight_185 rfl ?_
                refine g_bipush (v := 110) X dL_areGuestsRight_187 (by decide) ?_
                refine g_callS X lm_L_179 (a_41 G hL hJ.inv (g := k) h8 (hJ.g hk) (Or.inr (Or.inr rfl))) rfl rfl (Nat.le_of_ble_eq_true rfl) (by rw [RM]; exact ⟨Nat.le_of_ble_eq_true rfl, Nat.le_of_ble_eq_true rfl⟩) (by rw [RM]; show _ + _ ≤ 200 ∧ _ + _ ≤ 1300; omega) dL_areGuestsRight_189 (fun v hz q => ?_) (fun _ _ q => q.elim)
                obtain ⟨x189, rfl, e189, rfl⟩ := q
                refine GJ.seq (st' := [.int x189]) rfl ?_
                refine g_bipush (v := 99) X dL_areGuestsRight_192 (by decide) ?_
                refine g_icmp_gt 216 X dL_areGuestsRight_194 (by decide) (fun c194 => ?_) (fun c194 => ?_)
                · skip
                  exact absurd c194 (by rw [e189]; exact hgk.2.2.1.2)
                · skip
                  refine g_aload_n X dL_areGuestsRight_197 rfl ?_
                  refine g_bipush (v := 41) X dL_areGuestsRight_198 (by decide) ?_
                  refine g_iload X dL_areGuestsRight_200 rfl ?_
                  refine g_bipush (v := 104) X dL_areGuestsRight_202 (by decide) ?_
                  refine g_callS X lm_L_179 (a_41 G hL hJ.inv (g := k) h8 (hJ.g hk) (Or.inr (Or.inl rfl))) rfl rfl (Nat.le_of_ble_eq_true rfl) (by rw [RM]; exact ⟨Nat.le_of_ble_eq_true rfl, Nat.le_of_ble_eq_true rfl⟩) (by rw [RM]; show _ + _ ≤ 200 ∧ _ + _ ≤ 1300; omega) dL_areGuestsRight_204 (fun v hz q => ?_) (fun _ _ q => q.elim)
                  obtain ⟨x204, rfl, e204, rfl⟩ := q
                  refine GJ.seq (st' := [.int x204]) rfl ?_
                  refine g_bipush (v := 99) X dL_areGuestsRight_207 (by decide) ?_
                  refine g_icmp_gt 216 X dL_areGuestsRight_209 (by decide) (fun c209 => ?_) (fun c209 => ?_)
                  · skip
                    exact absurd c209 (by rw [e204]; show ¬ 99 < pI P 1 k 0 3; obtain ⟨n, hn, e⟩ := hgk.2.2.1.1; rw [e]; exact nI_nlt (a := 99) hn (by omega))
                  · skip
                    refine g_iconst (v := 1) X dL_areGuestsRight_212 (by decide) ?_
                    refine g_goto 217 X dL_areGuestsRight_213 (by decide) ?_
                    refine g_istore (lv' := [(7, .int 1), (6, .int x161), (5, .int x141), (9, .int x119), (8, .int x8), (3, .long O), (1, .long B), (0, .ref a)]) X dL_areGuestsRight_217 (by decide) rfl ?_
                    refine gp_iinc 4 X dL_areGuestsRight_219 rfl (by decide) (fun x219 e219 => ?_)
                    refine GJ.leq (lv' := [(8, .int x219), (7, .int 1), (6, .int x161), (5, .int x141), (9, .int x119), (3, .long O), (1, .long B), (0, .ref a)]) rfl ?_
                    refine g_goto 104 X dL_areGuestsRight_222 (by decide) ?_
                    refine GJ.pick [0, 1, 2, 3, 5, 6, 7] rfl ?_
                    exact ih (k + 1) _ _ w5b w6b _ _ _ (by omega) (by omega) (by rw [e219, h8]; exact nI_1 k) h5b h6b h5wb h6wb
          · skip
            refine g_iconst (v := 1) X dL_areGuestsRight_153 (by decide) ?_
            refine g_goto 158 X dL_areGuestsRight_154 (by decide) ?_
            refine g_callS X lm_L_62 (g_told G) rfl rfl (Nat.le_of_ble_eq_true rfl) (by rw [RM]; exact ⟨Nat.le_of_ble_eq_true rfl, Nat.le_of_ble_eq_true rfl⟩) (by rw [RM]; show _ + _ ≤ 200 ∧ _ + _ ≤ 1300; omega) dL_areGuestsRight_158 (fun v hz q => ?_) (fun _ _ q => q.elim)
            obtain ⟨x158, rfl, e158, rfl⟩ := q
            refine GJ.seq (st' := [.int x158, .int x6]) rfl ?_
            refine g_isub X dL_areGuestsRight_161 (fun x161 e161 => ?_)
            obtain ⟨w6b, h6b, h6wb⟩ := told_n (c := true) (d := if pI P 1 k 0 6 = 116 then 1 else 0) h6 e161 (by rw [e158]; first | rw [if_pos (e119.symm.trans c150)]; rfl | rw [if_neg (fun e => c150 (e119.trans e))]; rfl) h6w (sumN_step (f := fun g => if pI P 1 g 0 6 = 116 then 1 else 0) hk)
            refine g_istore (lv' := [(6, .int x161), (5, .int x141), (9, .int x119), (8, .int x8), (7, .int 1), (3, .long O), (1, .long B), (0, .ref a)]) X dL_areGuestsRight_162 (by decide) rfl ?_
            refine g_iload X dL_areGuestsRight_164 rfl ?_
            refine g_if_eq 216 X dL_areGuestsRight_166 (by decide) (fun c166 => ?_) (fun c166 => ?_)
            · skip
              exact absurd c166 (by decide)
            · skip
              refine g_aload_n X dL_areGuestsRight_169 rfl ?_
              refine g_bipush (v := 41) X dL_areGuestsRight_170 (by decide) ?_
              refine g_iload X dL_areGuestsRight_172 rfl ?_
              refine g_bipush (v := 109) X dL_areGuestsRight_174 (by decide) ?_
              refine g_callS X lm_L_179 (a_41 G hL hJ.inv (g := k) h8 (hJ.g hk) (Or.inl rfl)) rfl rfl (Nat.le_of_ble_eq_true rfl) (by rw [RM]; exact ⟨Nat.le_of_ble_eq_true rfl, Nat.le_of_ble_eq_true rfl⟩) (by rw [RM]; show _ + _ ≤ 200 ∧ _ + _ ≤ 1300; omega) dL_areGuestsRight_176 (fun v hz q => ?_) (fun _ _ q => q.elim)
              obtain ⟨x176, rfl, e176, rfl⟩ := q
              refine GJ.seq (st' := [.int x176]) rfl ?_
              refine g_if_lt 216 X dL_areGuestsRight_179 (by decide) (fun c179 => ?_) (fun c179 => ?_)
              · skip
                exact absurd c179 (by rw [e176]; show ¬ pI P 1 k 0 0 < 0; rw [hgk.2.1.1]; exact nI_pos (by have := hgk.2.1.2; omega))
              · skip
                refine g_aload_n X dL_areGuestsRight_182 rfl ?_
                refine g_bipush (v := 41) X dL_areGuestsRight_183 (by decide) ?_
                refine g_iload X dL_areGuestsRight_185 rfl ?_
                refine g_bipush (v := 110) X dL_areGuestsRight_187 (by decide) ?_
                refine g_callS X lm_L_179 (a_41 G hL hJ.inv (g := k) h8 (hJ.g hk) (Or.inr (Or.inr rfl))) rfl rfl (Nat.le_of_ble_eq_true rfl) (by rw [RM]; exact ⟨Nat.le_of_ble_eq_true rfl, Nat.le_of_ble_eq_true rfl⟩) (by rw [RM]; show _ + _ ≤ 200 ∧ _ + _ ≤ 1300; omega) dL_areGuestsRight_189 (fun v hz q => ?_) (fun _ _ q => q.elim)
                obtain ⟨x189, rfl, e189, rfl⟩ := q
                refine GJ.seq (st' := [.int x189]) rfl ?_
                refine g_bipush (v := 99) X dL_areGuestsRight_192 (by decide) ?_
                refine g_icmp_gt 216 X dL_areGuestsRight_194 (by decide) (fun c194 => ?_) (fun c194 => ?_)
                · skip
                  exact absurd c194 (by rw [e189]; exact hgk.2.2.1.2)
                · skip
                  refine g_aload_n X dL_areGuestsRight_197 rfl ?_
                  refine g_bipush (v := 41) X dL_areGuestsRight_198 (by decide) ?_
                  refine g_iload X dL_areGuestsRight_200 rfl ?_
                  refine g_bipush (v := 104) X dL_areGuestsRight_202 (by decide) ?_
                  refine g_callS X lm_L_179 (a_41 G hL hJ.inv (g := k) h8 (hJ.g hk) (Or.inr (Or.inl rfl))) rfl rfl (Nat.le_of_ble_eq_true rfl) (by rw [RM]; exact ⟨Nat.le_of_ble_eq_true rfl, Nat.le_of_ble_eq_true rfl⟩) (by rw [RM]; show _ + _ ≤ 200 ∧ _ + _ ≤ 1300; omega) dL_areGuestsRight_204 (fun v hz q => ?_) (fun _ _ q => q.elim)
                  obtain ⟨x204, rfl, e204, rfl⟩ := q
                  refine GJ.seq (st' := [.int x204]) rfl ?_
                  refine g_bipush (v := 99) X dL_areGuestsRight_207 (by decide) ?_
                  refine g_icmp_gt 216 X dL_areGuestsRight_209 (by decide) (fun c209 => ?_) (fun c209 => ?_)
                  · skip
                    exact absurd c209 (by rw [e204]; show ¬ 99 < pI P 1 k 0 3; obtain ⟨n, hn, e⟩ := hgk.2.2.1.1; rw [e]; exact nI_nlt (a := 99) hn (by omega))
                  · skip
                    refine g_iconst (v := 1) X dL_areGuestsRight_212 (by decide) ?_
                    refine g_goto 217 X dL_areGuestsRight_213 (by decide) ?_
                    refine g_istore (lv' := [(7, .int 1), (6, .int x161), (5, .int x141), (9, .int x119), (8, .int x8), (3, .long O), (1, .long B), (0, .ref a)]) X dL_areGuestsRight_217 (by decide) rfl ?_
                    refine gp_iinc 4 X dL_areGuestsRight_219 rfl (by decide) (fun x219 e219 => ?_)
                    refine GJ.leq (lv' := [(8, .int x219), (7, .int 1), (6, .int x161), (5, .int x141), (9, .int x119), (3, .long O), (1, .long B), (0, .ref a)]) rfl ?_
                    refine g_goto 104 X dL_areGuestsRight_222 (by decide) ?_
                    refine GJ.pick [0, 1, 2, 3, 5, 6, 7] rfl ?_
                    exact ih (k + 1) _ _ w5b w6b _ _ _ (by omega) (by omega) (by rw [e219, h8]; exact nI_1 k) h5b h6b h5wb h6wb
  have LB : ∀ (m : Nat) (r i kk nn s6 : Nat) (x8 x7 x6 x5 : Int32) (hr : r < 2) (hm : m + i = pnT P r) (hkn : kk + m * 2 ≤ 170 ∧ nn + m * 12 ≤ 1100) (h7 : x7 = nI r) (h8 : x8 = nI i) (h6 : x6 = nI (s6 + sumN i (fun i => (RR r i).length))) (K : ∀ (kk2 nn2 : Nat) (x8 x6 : Int32), kk2 ≤ kk + m * 2 + 1 → nn2 ≤ nn + m * 12 + 6 → x6 = nI (s6 + rSum P RR r) → GJ Z Γ h kk2 nn2 92 [(8, .int x8), (7, .int x7), (6, .int x6), (5, .int x5), (3, .long O), (1, .long B), (0, .ref a)] []), GJ Z Γ h kk nn 55 [(8, .int x8), (7, .int x7), (6, .int x6), (5, .int x5), (3, .long O), (1, .long B), (0, .ref a)] [] := by
    intro m
    induction m with
    | zero =>
      intro r i kk nn s6 x8 x7 x6 x5 hr hm hkn h7 h8 h6 K
      have hi : i = pnT P r := by omega
      subst hi
      refine g_aload_n X dL_areGuestsRight_55 rfl ?_
      refine g_bipush (v := 38) X dL_areGuestsRight_56 (by decide) ?_
      refine g_iload X dL_areGuestsRight_58 rfl ?_
      refine g_iload X dL_areGuestsRight_60 rfl ?_
      refine g_callS X lm_L_179 (a_38 G hL hJ.inv (r := r) h7 (hJ.r hr)) rfl rfl (Nat.le_of_ble_eq_true rfl) (by rw [RM]; exact ⟨Nat.le_of_ble_eq_true rfl, Nat.le_of_ble_eq_true rfl⟩) (by rw [RM]; show _ + _ ≤ 200 ∧ _ + _ ≤ 1300; omega) dL_areGuestsRight_62 (fun v hz q => ?_) (fun _ _ q => q.elim)
      obtain ⟨x62, rfl, e62, rfl⟩ := q
      refine GJ.seq (st' := [.int x62]) rfl ?_
      replace e62 := tr_end e62 h8 (hnn.2.1 r (hJ.r hr))
      refine g_sipush (v := (-2001)) X dL_areGuestsRight_65 (by decide) ?_
      refine g_icmp_eq 92 X dL_areGuestsRight_68 (by decide) (fun c68 => ?_) (fun c68 => ?_)
      · skip
        exact K _ _ x8 x6 (by omega) (by omega) h6
      · skip
        exact absurd e62 c68
    | succ m ih =>
      intro r i kk nn s6 x8 x7 x6 x5 hr hm hkn h7 h8 h6 K
      have hi : i < pnT P r := by omega
      have hTi := hw.1.2.2.1 r i (hJ.r hr) hi
      refine g_aload_n X dL_areGuestsRight_55 rfl ?_
      refine g_bipush (v := 38) X dL_areGuestsRight_56 (by decide) ?_
      refine g_iload X dL_areGuestsRight_58 rfl ?_
      refine g_iload X dL_areGuestsRight_60 rfl ?_
      refine g_callS X lm_L_179 (a_38 G hL hJ.inv (r := r) h7 (hJ.r hr)) rfl rfl (Nat.le_of_ble_eq_true rfl) (by rw [RM]; exact ⟨Nat.le_of_ble_eq_true rfl, Nat.le_of_ble_eq_true rfl⟩) (by rw [RM]; show _ + _ ≤ 200 ∧ _ + _ ≤ 1300; omega) dL_areGuestsRight_62 (fun v hz q => ?_) (fun _ _ q => q.elim)
      obtain ⟨x62, rfl, e62, rfl⟩ := q
      refine GJ.seq (st' := [.int x62]) rfl ?_
      replace e62 := tr_at e62 h8 hi (hnn.2.1 r (hJ.r hr))
      refine g_sipush (v := (-2001)) X dL_areGuestsRight_65 (by decide) ?_
      refine g_icmp_eq 92 X dL_areGuestsRight_68 (by decide) (fun c68 => ?_) (fun c68 => ?_)
      · skip
        exact absurd (hTi.1.symm.trans (e62.symm.trans c68)) (ne_idx (by have := hTi.2.2.1; omega))
      · skip
        refine g_iload X dL_areGuestsRight_71 rfl ?_
        refine g_aload_n X dL_areGuestsRight_73 rfl ?_
        refine g_bipush (v := 38) X dL_areGuestsRight_74 (by decide) ?_
        refine g_iload X dL_areGuestsRight_76 rfl ?_
        refine g_iload X dL_areGuestsRight_78 rfl ?_
        refine g_callS X lm_L_179 (a_38 G hL hJ.inv (r := r) h7 (hJ.r hr)) rfl rfl (Nat.le_of_ble_eq_true rfl) (by rw [RM]; exact ⟨Nat.le_of_ble_eq_true rfl, Nat.le_of_ble_eq_true rfl⟩) (by rw [RM]; show _ + _ ≤ 200 ∧ _ + _ ≤ 1300; omega) dL_areGuestsRight_80 (fun v hz q => ?_) (fun _ _ q => q.elim)
        obtain ⟨x80, rfl, e80, rfl⟩ := q
        refine GJ.seq (st' := [.int x80, .int x6]) rfl ?_
        replace e80 := tr_at e80 h8 hi (hnn.2.1 r (hJ.r hr))
        refine g_iadd X dL_areGuestsRight_83 (fun x83 e83 => ?_)
        refine g_istore (lv' := [(6, .int x83), (8, .int x8), (7, .int x7), (5, .int x5), (3, .long O), (1, .long B), (0, .ref a)]) X dL_areGuestsRight_84 (by decide) rfl ?_
        refine gp_iinc 1 X dL_areGuestsRight_86 rfl (by decide) (fun x86 e86 => ?_)
        refine GJ.leq (lv' := [(8, .int x86), (6, .int x83), (7, .int x7), (5, .int x5), (3, .long O), (1, .long B), (0, .ref a)]) rfl ?_
        refine g_goto 55 X dL_areGuestsRight_89 (by decide) ?_
        refine GJ.pick [0, 2, 1, 3, 4, 5, 6] rfl ?_
        exact ih r (i + 1) _ _ s6 x86 x7 x83 x5 hr (by omega) (by omega) h7 (by rw [e86, h8]; exact nI_1 i) (by rw [e83, h6, e80, hTi.1, nI_add, Nat.add_assoc]; rfl) (fun kk2 nn2 y8 y6 g1 g2 g3 => K kk2 nn2 y8 y6 (by omega) (by omega) g3)
  have LA : ∀ (m : Nat) (r kk nn : Nat) (x7 x6 x5 : Int32) (hm : m + r = 2) (hkn : kk + m * 10 ≤ 100 ∧ nn + m * 60 ≤ 900) (h7 : x7 = nI r) (h5 : x5 = nI (sumN r (wSum LL))) (h6 : x6 = nI (sumN r (rSum P RR))), GJ Z Γ h kk nn 9 [(7, .int x7), (6, .int x6), (5, .int x5), (3, .long O), (1, .long B), (0, .ref a)] [] := by
    intro m
    induction m with
    | zero =>
      intro r kk nn x7 x6 x5 hm hkn h7 h5 h6
      have hr : r = 2 := by omega
      subst hr
      refine g_iload X dL_areGuestsRight_9 rfl ?_
      refine g_iconst (v := 2) X dL_areGuestsRight_11 (by decide) ?_
      refine g_icmp_ge 98 X dL_areGuestsRight_12 (by decide) (fun c12 => ?_) (fun c12 => ?_)
      · skip
        refine g_iconst (v := 1) X dL_areGuestsRight_98 (by decide) ?_
        refine g_istore (lv' := [(7, .int 1), (6, .int x6), (5, .int x5), (3, .long O), (1, .long B), (0, .ref a)]) X dL_areGuestsRight_99 (by decide) rfl ?_
        refine g_iconst (v := 0) X dL_areGuestsRight_101 (by decide) ?_
        refine g_istore (lv' := [(8, .int 0), (7, .int 1), (6, .int x6), (5, .int x5), (3, .long O), (1, .long B), (0, .ref a)]) X dL_areGuestsRight_102 (by decide) rfl ?_
        exact LC 14 0 _ _ (sumN 14 (fun g => if pI P 1 g 0 6 = 113 then 1 else 0)) (sumN 14 (fun g => if pI P 1 g 0 6 = 116 then 1 else 0)) 0 x6 x5 rfl (by omega) rfl (h5.trans (by show nI (0 + wSum LL 0 + wSum LL 1) = _; rw [Nat.zero_add, hws])) (h6.trans (by show nI (0 + rSum P RR 0 + rSum P RR 1) = _; rw [Nat.zero_add, hrs])) rfl rfl
      · skip
        exact absurd c12 (by rw [h7]; exact nI_nlt (b := 2) (by omega) (by omega))
    | succ m ih =>
      intro r kk nn x7 x6 x5 hm hkn h7 h5 h6
      have hr : r < 2 := by omega
      have hL0 := hw.1.1 r 0 (hJ.r hr) (by decide)
      have hL1 := hw.1.1 r 1 (hJ.r hr) (by decide)
      have hL2 := hw.1.1 r 2 (hJ.r hr) (by decide)
      refine g_iload X dL_areGuestsRight_9 rfl ?_
      refine g_iconst (v := 2) X dL_areGuestsRight_11 (by decide) ?_
      refine g_icmp_ge 98 X dL_areGuestsRight_12 (by decide) (fun c12 => ?_) (fun c12 => ?_)
      · skip
        exact absurd (by rw [h7]; exact nI_lt (b := 2) (by omega) (by omega)) c12
      · skip
        refine g_iload X dL_areGuestsRight_15 rfl ?_
        refine g_aload_n X dL_areGuestsRight_17 rfl ?_
        refine g_bipush (v := 39) X dL_areGuestsRight_18 (by decide) ?_
        refine g_iload X dL_areGuestsRight_20 rfl ?_
        refine g_bipush (v := 108) X dL_areGuestsRight_22 (by decide) ?_
        refine g_callS X lm_L_179 (a_39 G hL hJ.inv (r := r) h7 (hJ.r hr) (q := 0) (Or.inl ⟨rfl, rfl⟩)) rfl rfl (Nat.le_of_ble_eq_true rfl) (by rw [RM]; exact ⟨Nat.le_of_ble_eq_true rfl, Nat.le_of_ble_eq_true rfl⟩) (by rw [RM]; show _ + _ ≤ 200 ∧ _ + _ ≤ 1300; omega) dL_areGuestsRight_24 (fun v hz q => ?_) (fun _ _ q => q.elim)
        obtain ⟨x24, rfl, e24, rfl⟩ := q
        refine GJ.seq (st' := [.int x24, .int x5]) rfl ?_
        refine g_aload_n X dL_areGuestsRight_27 rfl ?_
        refine g_bipush (v := 39) X dL_areGuestsRight_28 (by decide) ?_
        refine g_iload X dL_areGuestsRight_30 rfl ?_
        refine g_bipush (v := 115) X dL_areGuestsRight_32 (by decide) ?_
        refine g_callS X lm_L_179 (a_39 G hL hJ.inv (r := r) h7 (hJ.r hr) (q := 1) (Or.inr (Or.inl ⟨rfl, rfl⟩))) rfl rfl (Nat.le_of_ble_eq_true rfl) (by rw [RM]; exact ⟨Nat.le_of_ble_eq_true rfl, Nat.le_of_ble_eq_true rfl⟩) (by rw [RM]; show _ + _ ≤ 200 ∧ _ + _ ≤ 1300; omega) dL_areGuestsRight_34 (fun v hz q => ?_) (fun _ _ q => q.elim)
        obtain ⟨x34, rfl, e34, rfl⟩ := q
        refine GJ.seq (st' := [.int x34, .int x24, .int x5]) rfl ?_
        refine g_iadd X dL_areGuestsRight_37 (fun x37 e37 => ?_)
        refine g_aload_n X dL_areGuestsRight_38 rfl ?_
        refine g_bipush (v := 39) X dL_areGuestsRight_39 (by decide) ?_
        refine g_iload X dL_areGuestsRight_41 rfl ?_
        refine g_bipush (v := 114) X dL_areGuestsRight_43 (by decide) ?_
        refine g_callS X lm_L_179 (a_39 G hL hJ.inv (r := r) h7 (hJ.r hr) (q := 2) (Or.inr (Or.inr ⟨rfl, rfl⟩))) rfl rfl (Nat.le_of_ble_eq_true rfl) (by rw [RM]; exact ⟨Nat.le_of_ble_eq_true rfl, Nat.le_of_ble_eq_true rfl⟩) (by rw [RM]; show _ + _ ≤ 200 ∧ _ + _ ≤ 1300; omega) dL_areGuestsRight_45 (fun v hz q => ?_) (fun _ _ q => q.elim)
        obtain ⟨x45, rfl, e45, rfl⟩ := q
        refine GJ.seq (st' := [.int x45, .int x37, .int x5]) rfl ?_
        refine g_iadd X dL_areGuestsRight_48 (fun x48 e48 => ?_)
        refine g_iadd X dL_areGuestsRight_49 (fun x49 e49 => ?_)
        refine g_istore (lv' := [(5, .int x49), (7, .int x7), (6, .int x6), (3, .long O), (1, .long B), (0, .ref a)]) X dL_areGuestsRight_50 (by decide) rfl ?_
        refine g_iconst (v := 0) X dL_areGuestsRight_52 (by decide) ?_
        refine g_istore (lv' := [(8, .int 0), (5, .int x49), (7, .int x7), (6, .int x6), (3, .long O), (1, .long B), (0, .ref a)]) X dL_areGuestsRight_53 (by decide) rfl ?_
        refine GJ.pick [0, 2, 3, 1, 4, 5, 6] rfl ?_
        refine LB (pnT P r) r 0 _ _ (sumN r (rSum P RR)) 0 x7 x6 x49 hr (by omega) (by have := hnn.2.1 r (hJ.r hr); omega) h7 rfl (by rw [h6]; rfl) (fun kk2 nn2 y8 y6 g1 g2 g3 => ?_)
        have hT4 := hnn.2.1 r (hJ.r hr)
        refine gp_iinc 1 X dL_areGuestsRight_92 rfl (by decide) (fun x92 e92 => ?_)
        refine GJ.leq (lv' := [(7, .int x92), (8, .int y8), (6, .int y6), (5, .int x49), (3, .long O), (1, .long B), (0, .ref a)]) rfl ?_
        refine g_goto 9 X dL_areGuestsRight_95 (by decide) ?_
        refine GJ.pick [0, 2, 3, 4, 5, 6] rfl ?_
        exact ih (r + 1) _ _ x92 y6 x49 (by omega) (by omega) (by rw [e92, h7]; exact nI_1 r) (by rw [e49, h5, e48, e37, e24, e34, e45, hL0.1, hL1.1, hL2.1, nI_add, nI_add, nI_add]; rfl) g3
  refine g_iconst (v := 0) X dL_areGuestsRight_0 (by decide) ?_
  refine g_istore (lv' := [(5, .int 0), (0, .ref a), (1, .long B), (3, .long O)]) X dL_areGuestsRight_1 (by decide) rfl ?_
  refine g_iconst (v := 0) X dL_areGuestsRight_3 (by decide) ?_
  refine g_istore (lv' := [(6, .int 0), (5, .int 0), (0, .ref a), (1, .long B), (3, .long O)]) X dL_areGuestsRight_4 (by decide) rfl ?_
  refine g_iconst (v := 0) X dL_areGuestsRight_6 (by decide) ?_
  refine g_istore (lv' := [(7, .int 0), (6, .int 0), (5, .int 0), (0, .ref a), (1, .long B), (3, .long O)]) X dL_areGuestsRight_7 (by decide) rfl ?_
  refine GJ.pick [0, 1, 2, 5, 4, 3] rfl ?_
  exact LA 2 0 0 0 0 0 0 rfl (by omega) rfl rfl rfl
end GRIGHT
