/-! queues: pure words and contracts; the state with a queue's places as a list -/
section GLINE
variable {Z : gEnv} {Γ : gCtx} {cc : ByteArray} {own : String} {nL : Nat} {ret : Option FieldType} {h : gH} {k n pc : Nat} {lv lv' : List (Nat × Value)} {st st' : List Value} {ad : gAd} {P : gP}
/-- the words of Math.max, Math.min -/
def gLMax (own : String) (idx : Nat) : Prop := Cond.methodLink own idx Lib.Math.max.name ∈ gT ∧ Cond.static Lib.Math.max.name ∈ gT ∧ Cond.initialized "java/lang/Math" ∈ gT ∧ Cond.code Lib.Math.max.name Lib.Math.max.code 2 (some .int) ∈ gT
def gLMin (own : String) (idx : Nat) : Prop := Cond.methodLink own idx Lib.Math.min.name ∈ gT ∧ Cond.static Lib.Math.min.name ∈ gT ∧ Cond.initialized "java/lang/Math" ∈ gT ∧ Cond.code Lib.Math.min.name Lib.Math.min.code 2 (some .int) ∈ gT
theorem gp_max {idx D M S : Nat} {x y : Int32} (X : gOK Z Γ cc own nL ret) (RM : Γ.2.2.1 = gRm D M S) (L : gLMax own idx) (hD : 1 ≤ D ∧ (st.map fun v => v.category).sum + 13 ≤ 50 * D) (hf : k ≤ M ∧ n ≤ S) (d : decode cc pc = .ok (.invokestatic idx, 3)) (kk : ∀ z : Int32, z = (if x < y then y else x) → GJ Z Γ h k n (pc + 3) lv (.int z :: st)) : GJ Z Γ h k n pc lv (.int y :: .int x :: st) := fun H locs ls hw hS hl =>
  va_mmax X.exec X.bytes (by rw [X.maxl]; exact (hl.1.trans X.nl).symm) X.ow (X.wd L.1) (X.wd L.2.1) (X.wd L.2.2.1) (X.wd L.2.2.2) (by rw [RM]; exact hD.1) (by rw [RM]; exact hD.2) (by rw [RM]; exact hf.1) (by rw [RM]; exact hf.2) d (kk _ rfl H locs ls hw hS hl)
theorem gp_min {idx D M S : Nat} {x y : Int32} (X : gOK Z Γ cc own nL ret) (RM : Γ.2.2.1 = gRm D M S) (L : gLMin own idx) (hD : 1 ≤ D ∧ (st.map fun v => v.category).sum + 13 ≤ 50 * D) (hf : k ≤ M ∧ n ≤ S) (d : decode cc pc = .ok (.invokestatic idx, 3)) (kk : ∀ z : Int32, z = (if y < x then y else x) → GJ Z Γ h k n (pc + 3) lv (.int z :: st)) : GJ Z Γ h k n pc lv (.int y :: .int x :: st) := fun H locs ls hw hS hl =>
  va_mmin X.exec X.bytes (by rw [X.maxl]; exact (hl.1.trans X.nl).symm) X.ow (X.wd L.1) (X.wd L.2.1) (X.wd L.2.2.1) (X.wd L.2.2.2) (by rw [RM]; exact hD.1) (by rw [RM]; exact hD.2) (by rw [RM]; exact hf.1) (by rw [RM]; exact hf.2) d (kk _ rfl H locs ls hw hS hl)
theorem lm_X1_59 : gLMax RX1 59 := ⟨gT_at 910 (by decide +kernel) (by decide +kernel), gT_at 789 (by decide +kernel) (by decide +kernel), gT_at 35 (by decide +kernel) (by decide +kernel), gT_at 790 (by decide +kernel) (by decide +kernel)⟩
theorem lm_X1_65 : gLMin RX1 65 := ⟨gT_at 766 (by decide +kernel) (by decide +kernel), gT_at 767 (by decide +kernel) (by decide +kernel), gT_at 35 (by decide +kernel) (by decide +kernel), gT_at 768 (by decide +kernel) (by decide +kernel)⟩
theorem lm_X5_77 : gLMax RX5 77 := ⟨gT_at 788 (by decide +kernel) (by decide +kernel), gT_at 789 (by decide +kernel) (by decide +kernel), gT_at 35 (by decide +kernel) (by decide +kernel), gT_at 790 (by decide +kernel) (by decide +kernel)⟩
theorem lm_L_171 : gLMin RL 171 := ⟨gT_at 1013 (by decide +kernel) (by decide +kernel), gT_at 767 (by decide +kernel) (by decide +kernel), gT_at 35 (by decide +kernel) (by decide +kernel), gT_at 768 (by decide +kernel) (by decide +kernel)⟩
theorem lm_L_176 : gLMax RL 176 := ⟨gT_at 1014 (by decide +kernel) (by decide +kernel), gT_at 789 (by decide +kernel) (by decide +kernel), gT_at 35 (by decide +kernel) (by decide +kernel), gT_at 790 (by decide +kernel) (by decide +kernel)⟩
/-- the places of a queue as a function, as a list; the riders of a train as a list -/
def sPL (P : gP) (r q : Nat) (f : Nat → Option Nat) : gP := (P.1, P.2.1, P.2.2.1, fun r' i' j' => if r' = r ∧ i' = q then f j' else P.2.2.2.1 r' i' j', P.2.2.2.2)
def sRD (P : gP) (r i : Nat) (f : Nat → Option Nat) : gP := (P.1, P.2.1, fun r' i' j' => if r' = r ∧ i' = i then f j' else P.2.2.1 r' i' j', P.2.2.2)
def sLn (P : gP) (r q : Nat) (l : List Nat) : gP := sPL (uI P 2 r q 1 (nI l.length)) r q (fun j => l[j]?)
def sTr (P : gP) (r i : Nat) (l : List Nat) : gP := sRD (uI P 5 r i 2 (nI l.length)) r i (fun j => l[j]?)
theorem pI_sPL (P : gP) (r0 i0 : Nat) (f : Nat → Option Nat) (k r i s : Nat) : pI (sPL P r0 i0 f) k r i s = pI P k r i s := rfl
theorem pJ_sPL (P : gP) (r0 i0 : Nat) (f : Nat → Option Nat) (s : Nat) : pJ (sPL P r0 i0 f) s = pJ P s := rfl
theorem pRD_sPL (P : gP) (r0 i0 : Nat) (f : Nat → Option Nat) (r i j : Nat) : pRD (sPL P r0 i0 f) r i j = pRD P r i j := rfl
theorem pPL_sPL (P : gP) (r0 i0 : Nat) (f : Nat → Option Nat) (r i j : Nat) : pPL (sPL P r0 i0 f) r i j = if r = r0 ∧ i = i0 then f j else pPL P r i j := rfl
theorem pGL_sPL (P : gP) (r0 i0 : Nat) (f : Nat → Option Nat) (g : Nat) : pGL (sPL P r0 i0 f) g = pGL P g := rfl
theorem pnR_sPL (P : gP) (r0 i0 : Nat) (f : Nat → Option Nat)  : pnR (sPL P r0 i0 f) = pnR P := rfl
theorem pnG_sPL (P : gP) (r0 i0 : Nat) (f : Nat → Option Nat)  : pnG (sPL P r0 i0 f) = pnG P := rfl
theorem pnB_sPL (P : gP) (r0 i0 : Nat) (f : Nat → Option Nat) (r : Nat) : pnB (sPL P r0 i0 f) r = pnB P r := rfl
theorem pnT_sPL (P : gP) (r0 i0 : Nat) (f : Nat → Option Nat) (r : Nat) : pnT (sPL P r0 i0 f) r = pnT P r := rfl
theorem pnX_sPL (P : gP) (r0 i0 : Nat) (f : Nat → Option Nat)  : pnX (sPL P r0 i0 f) = pnX P := rfl
theorem gLive_sPL (P : gP) (r0 i0 : Nat) (f : Nat → Option Nat) (k r i : Nat) : gLive (sPL P r0 i0 f) k r i = gLive P k r i := rfl
theorem pI_sRD (P : gP) (r0 i0 : Nat) (f : Nat → Option Nat) (k r i s : Nat) : pI (sRD P r0 i0 f) k r i s = pI P k r i s := rfl
theorem pJ_sRD (P : gP) (r0 i0 : Nat) (f : Nat → Option Nat) (s : Nat) : pJ (sRD P r0 i0 f) s = pJ P s := rfl
theorem pRD_sRD (P : gP) (r0 i0 : Nat) (f : Nat → Option Nat) (r i j : Nat) : pRD (sRD P r0 i0 f) r i j = if r = r0 ∧ i = i0 then f j else pRD P r i j := rfl
theorem pPL_sRD (P : gP) (r0 i0 : Nat) (f : Nat → Option Nat) (r i j : Nat) : pPL (sRD P r0 i0 f) r i j = pPL P r i j := rfl
theorem pGL_sRD (P : gP) (r0 i0 : Nat) (f : Nat → Option Nat) (g : Nat) : pGL (sRD P r0 i0 f) g = pGL P g := rfl
theorem pnR_sRD (P : gP) (r0 i0 : Nat) (f : Nat → Option Nat)  : pnR (sRD P r0 i0 f) = pnR P := rfl
theorem pnG_sRD (P : gP) (r0 i0 : Nat) (f : Nat → Option Nat)  : pnG (sRD P r0 i0 f) = pnG P := rfl
theorem pnB_sRD (P : gP) (r0 i0 : Nat) (f : Nat → Option Nat) (r : Nat) : pnB (sRD P r0 i0 f) r = pnB P r := rfl
theorem pnT_sRD (P : gP) (r0 i0 : Nat) (f : Nat → Option Nat) (r : Nat) : pnT (sRD P r0 i0 f) r = pnT P r := rfl
theorem pnX_sRD (P : gP) (r0 i0 : Nat) (f : Nat → Option Nat)  : pnX (sRD P r0 i0 f) = pnX P := rfl
theorem gLive_sRD (P : gP) (r0 i0 : Nat) (f : Nat → Option Nat) (k r i : Nat) : gLive (sRD P r0 i0 f) k r i = gLive P k r i := rfl
theorem pI_sLn (P : gP) (r0 i0 : Nat) (l : List Nat) (k r i s : Nat) : pI (sLn P r0 i0 l) k r i s = if k = 2 ∧ r = r0 ∧ i = i0 ∧ s = 1 then nI l.length else pI P k r i s := rfl
theorem pJ_sLn (P : gP) (r0 i0 : Nat) (l : List Nat) (s : Nat) : pJ (sLn P r0 i0 l) s = pJ P s := rfl
theorem pRD_sLn (P : gP) (r0 i0 : Nat) (l : List Nat) (r i j : Nat) : pRD (sLn P r0 i0 l) r i j = pRD P r i j := rfl
theorem pPL_sLn (P : gP) (r0 i0 : Nat) (l : List Nat) (r i j : Nat) : pPL (sLn P r0 i0 l) r i j = if r = r0 ∧ i = i0 then l[j]? else pPL P r i j := rfl
theorem pGL_sLn (P : gP) (r0 i0 : Nat) (l : List Nat) (g : Nat) : pGL (sLn P r0 i0 l) g = pGL P g := rfl
theorem pnR_sLn (P : gP) (r0 i0 : Nat) (l : List Nat)  : pnR (sLn P r0 i0 l) = pnR P := rfl
theorem pnG_sLn (P : gP) (r0 i0 : Nat) (l : List Nat)  : pnG (sLn P r0 i0 l) = pnG P := rfl
theorem pnB_sLn (P : gP) (r0 i0 : Nat) (l : List Nat) (r : Nat) : pnB (sLn P r0 i0 l) r = pnB P r := rfl
theorem pnT_sLn (P : gP) (r0 i0 : Nat) (l : List Nat) (r : Nat) : pnT (sLn P r0 i0 l) r = pnT P r := rfl
theorem pnX_sLn (P : gP) (r0 i0 : Nat) (l : List Nat)  : pnX (sLn P r0 i0 l) = pnX P := rfl
theorem gLive_sLn (P : gP) (r0 i0 : Nat) (l : List Nat) (k r i : Nat) : gLive (sLn P r0 i0 l) k r i = gLive P k r i := rfl
theorem pI_sTr (P : gP) (r0 i0 : Nat) (l : List Nat) (k r i s : Nat) : pI (sTr P r0 i0 l) k r i s = if k = 5 ∧ r = r0 ∧ i = i0 ∧ s = 2 then nI l.length else pI P k r i s := rfl
theorem pJ_sTr (P : gP) (r0 i0 : Nat) (l : List Nat) (s : Nat) : pJ (sTr P r0 i0 l) s = pJ P s := rfl
theorem pRD_sTr (P : gP) (r0 i0 : Nat) (l : List Nat) (r i j : Nat) : pRD (sTr P r0 i0 l) r i j = if r = r0 ∧ i = i0 then l[j]? else pRD P r i j := rfl
theorem pPL_sTr (P : gP) (r0 i0 : Nat) (l : List Nat) (r i j : Nat) : pPL (sTr P r0 i0 l) r i j = pPL P r i j := rfl
theorem pGL_sTr (P : gP) (r0 i0 : Nat) (l : List Nat) (g : Nat) : pGL (sTr P r0 i0 l) g = pGL P g := rfl
theorem pnR_sTr (P : gP) (r0 i0 : Nat) (l : List Nat)  : pnR (sTr P r0 i0 l) = pnR P := rfl
theorem pnG_sTr (P : gP) (r0 i0 : Nat) (l : List Nat)  : pnG (sTr P r0 i0 l) = pnG P := rfl
theorem pnB_sTr (P : gP) (r0 i0 : Nat) (l : List Nat) (r : Nat) : pnB (sTr P r0 i0 l) r = pnB P r := rfl
theorem pnT_sTr (P : gP) (r0 i0 : Nat) (l : List Nat) (r : Nat) : pnT (sTr P r0 i0 l) r = pnT P r := rfl
theorem pnX_sTr (P : gP) (r0 i0 : Nat) (l : List Nat)  : pnX (sTr P r0 i0 l) = pnX P := rfl
theorem gLive_sTr (P : gP) (r0 i0 : Nat) (l : List Nat) (k r i : Nat) : gLive (sTr P r0 i0 l) k r i = gLive P k r i := rfl
/-- the queue holds this list of guests -/
def Ln (P : gP) (r q : Nat) (l : List Nat) : Prop := pI P 2 r q 1 = nI l.length ∧ (∀ j, pPL P r q j = l[j]?) ∧ l.length ≤ 60 ∧ ∀ g ∈ l, g < pnG P
/-- the train holds this list of riders -/
def Tr (P : gP) (r i : Nat) (l : List Nat) : Prop := pI P 5 r i 2 = nI l.length ∧ (∀ j, pRD P r i j = l[j]?) ∧ l.length ≤ 8 ∧ ∀ g ∈ l, g < pnG P
theorem uI_id {P : gP} {k r i s : Nat} {v : Int32} (h : pI P k r i s = v) : uI P k r i s v = P := by
  subst h
  obtain ⟨P1, P2⟩ := P
  unfold uI pI
  congr 1
  funext k' r' i' s'
  dsimp only
  split
  next hh => obtain ⟨rfl, rfl, rfl, rfl⟩ := hh; rfl
  next => rfl
theorem sPL_id {P : gP} {r q : Nat} {f : Nat → Option Nat} (h : ∀ j, pPL P r q j = f j) : sPL P r q f = P := by
  obtain ⟨P1, P2, P3, P4, P5⟩ := P
  unfold sPL
  dsimp only
  congr 4
  funext r' i' j'
  split
  next hh => obtain ⟨rfl, rfl⟩ := hh; exact (h j').symm
  next => rfl
theorem sRD_id {P : gP} {r q : Nat} {f : Nat → Option Nat} (h : ∀ j, pRD P r q j = f j) : sRD P r q f = P := by
  obtain ⟨P1, P2, P3, P4⟩ := P
  unfold sRD
  dsimp only
  congr 3
  funext r' i' j'
  split
  next hh => obtain ⟨rfl, rfl⟩ := hh; exact (h j').symm
  next => rfl
theorem sLn_id {P : gP} {r q : Nat} {l : List Nat} (h : Ln P r q l) : sLn P r q l = P := by
  unfold sLn
  rw [uI_id h.1]
  exact sPL_id h.2.1
theorem uPL_sPL {P : gP} {r q j : Nat} {f : Nat → Option Nat} {v : Option Nat} : uPL (sPL P r q f) r q j v = sPL P r q (fun j' => if j' = j then v else f j') := by
  unfold uPL sPL
  dsimp only
  congr 4
  funext r' i' j'
  by_cases h1 : r' = r ∧ i' = q
  · by_cases h2 : j' = j <;> simp [h1, h2]
  · rw [if_neg (fun hh => h1 ⟨hh.1, hh.2.1⟩), if_neg h1, if_neg h1]
theorem uRD_sRD {P : gP} {r q j : Nat} {f : Nat → Option Nat} {v : Option Nat} : uRD (sRD P r q f) r q j v = sRD P r q (fun j' => if j' = j then v else f j') := by
  unfold uRD sRD
  dsimp only
  congr 3
  funext r' i' j'
  by_cases h1 : r' = r ∧ i' = q
  · by_cases h2 : j' = j <;> simp [h1, h2]
  · rw [if_neg (fun hh => h1 ⟨hh.1, hh.2.1⟩), if_neg h1, if_neg h1]
theorem uPL_self {P : gP} {r q j : Nat} {v : Option Nat} : uPL P r q j v = sPL P r q (fun j' => if j' = j then v else pPL P r q j') := by
  rw [← uPL_sPL, sPL_id (fun _ => rfl)]
theorem uRD_self {P : gP} {r q j : Nat} {v : Option Nat} : uRD P r q j v = sRD P r q (fun j' => if j' = j then v else pRD P r q j') := by
  rw [← uRD_sRD, sRD_id (fun _ => rfl)]
theorem uI_sPL {P : gP} {r q k0 r0 i0 s0 : Nat} {v : Int32} {f : Nat → Option Nat} : uI (sPL P r q f) k0 r0 i0 s0 v = sPL (uI P k0 r0 i0 s0 v) r q f := rfl
theorem uI_sRD {P : gP} {r q k0 r0 i0 s0 : Nat} {v : Int32} {f : Nat → Option Nat} : uI (sRD P r q f) k0 r0 i0 s0 v = sRD (uI P k0 r0 i0 s0 v) r q f := rfl
theorem uPL_uI {P : gP} {r q j k0 r0 i0 s0 : Nat} {v : Int32} {w : Option Nat} : uPL (uI P k0 r0 i0 s0 v) r q j w = uI (uPL P r q j w) k0 r0 i0 s0 v := rfl
theorem Ln.at {P : gP} {r q : Nat} {l : List Nat} (h : Ln P r q l) {j : Nat} (hj : j < l.length) : pPL P r q j = some l[j] := by rw [h.2.1, List.getElem?_eq_getElem hj]
theorem Ln.mem {P : gP} {r q : Nat} {l : List Nat} (h : Ln P r q l) {j g : Nat} (hj : pPL P r q j = some g) : g < pnG P := h.2.2.2 g (List.mem_of_getElem? ((h.2.1 j).symm.trans hj))
theorem Ln.lt {P : gP} {r q : Nat} {l : List Nat} (h : Ln P r q l) {j : Nat} : (nI j < pI P 2 r q 1 ↔ j < l.length) ∨ 2 ^ 31 ≤ j := by
  rcases Nat.lt_or_ge j (2 ^ 31) with hj | hj
  · rw [h.1]; exact Or.inl (nI_ltI hj (by have := h.2.2.1; omega))
  · exact Or.inr hj
def fWith (P : gP) (g o : Nat) : Bool := decide (g = o) || (decide (¬ pI P 1 g 0 2 = 0) && decide (pI P 1 g 0 2 = pI P 1 o 0 2))
set_option maxHeartbeats 4000000 in
set_option maxRecDepth 100000 in
theorem c_X1_comesWith {Z : gEnv} {ad : gAd} {P : gP} {h : gH} (G : gG Z) (hR : gRep Z ad P h) {g : Nat} (hl : gLive P 1 g 0) {o : Nat} (ho : gLive P 1 o 0) : gMet Z yX1_comesWith cX1_comesWith 2 ((Option.some FieldType.boolean)) 1 0 0 [.ref (ad 1 g 0), .ref (ad 1 o 0)] h (qI h (fun x => x = if fWith P g o then 1 else 0)) (qN) := by
  refine g_enter (lv := [(0, .ref (ad 1 g 0)), (1, .ref (ad 1 o 0))]) G.2 (by decide +kernel) (Nat.le_of_ble_eq_true rfl) rfl (fun Γ X Nt E RM => ?_)
  refine g_aload_n X dX1_comesWith_0 rfl ?_
  refine g_aload_n X dX1_comesWith_1 rfl ?_
  refine g_acmp_eq 23 X dX1_comesWith_2 (by decide) (fun c2 => ?_) (fun c2 => ?_)
  · skip
    refine g_iconst (v := 1) X dX1_comesWith_23 (by decide) ?_
    refine g_goto 28 X dX1_comesWith_24 (by decide) ?_
    refine g_ireturn X E (by decide) dX1_comesWith_28 (by decide) (by decide) ?_
    have hgo : ad 1 g 0 = ad 1 o 0 ↔ g = o := ⟨fun e => (hR.2 _ _ _ _ _ _ hl ho e).2.1, fun e => by rw [e]⟩
    refine ⟨_, rfl, ?_, rfl⟩
    subst_vars
    simp_all [fWith]
  · skip
    refine g_aload_n X dX1_comesWith_5 rfl ?_
    refine gp_geti (j := 2) X hR hl cl_X1 lk_X1_25 rfl (by decide) rfl rfl dX1_comesWith_6 (fun x6 e6 => ?_)
    refine g_if_eq 27 X dX1_comesWith_9 (by decide) (fun c9 => ?_) (fun c9 => ?_)
    · skip
      refine g_iconst (v := 0) X dX1_comesWith_27 (by decide) ?_
      refine g_ireturn X E (by decide) dX1_comesWith_28 (by decide) (by decide) ?_
      have hgo : ad 1 g 0 = ad 1 o 0 ↔ g = o := ⟨fun e => (hR.2 _ _ _ _ _ _ hl ho e).2.1, fun e => by rw [e]⟩
      refine ⟨_, rfl, ?_, rfl⟩
      subst_vars
      simp_all [fWith]
    · skip
      refine g_aload_n X dX1_comesWith_12 rfl ?_
      refine gp_geti (j := 2) X hR hl cl_X1 lk_X1_25 rfl (by decide) rfl rfl dX1_comesWith_13 (fun x13 e13 => ?_)
      refine g_aload_n X dX1_comesWith_16 rfl ?_
      refine gp_geti (j := 2) X hR ho cl_X1 lk_X1_25 rfl (by decide) rfl rfl dX1_comesWith_17 (fun x17 e17 => ?_)
      refine g_icmp_ne 27 X dX1_comesWith_20 (by decide) (fun c20 => ?_) (fun c20 => ?_)
      · skip
        refine g_iconst (v := 0) X dX1_comesWith_27 (by decide) ?_
        refine g_ireturn X E (by decide) dX1_comesWith_28 (by decide) (by decide) ?_
        have hgo : ad 1 g 0 = ad 1 o 0 ↔ g = o := ⟨fun e => (hR.2 _ _ _ _ _ _ hl ho e).2.1, fun e => by rw [e]⟩
        refine ⟨_, rfl, ?_, rfl⟩
        subst_vars
        simp_all [fWith]
      · skip
        refine g_iconst (v := 1) X dX1_comesWith_23 (by decide) ?_
        refine g_goto 28 X dX1_comesWith_24 (by decide) ?_
        refine g_ireturn X E (by decide) dX1_comesWith_28 (by decide) (by decide) ?_
        have hgo : ad 1 g 0 = ad 1 o 0 ↔ g = o := ⟨fun e => (hR.2 _ _ _ _ _ _ hl ho e).2.1, fun e => by rw [e]⟩
        refine ⟨_, rfl, ?_, rfl⟩
        subst_vars
        simp_all [fWith]
set_option maxHeartbeats 4000000 in
set_option maxRecDepth 100000 in
theorem c_X2_partyOf {Z : gEnv} {ad : gAd} {P : gP} {h : gH} (G : gG Z) (hR : gRep Z ad P h) {r q : Nat} (hl : gLive P 2 r q) {l : List Nat} (hL : Ln P r q l) {o : Nat} (ho : gLive P 1 o 0) : gMet Z yX2_partyOf cX2_partyOf 5 ((Option.some FieldType.int)) 2 0 0 [.ref (ad 2 r q), .ref (ad 1 o 0)] h (qI h (fun _ => True)) (qN) := by
  refine g_enter (lv := [(0, .ref (ad 2 r q)), (1, .ref (ad 1 o 0))]) G.2 (by decide +kernel) (Nat.le_of_ble_eq_true rfl) rfl (fun Γ X Nt E RM => ?_)
  have L : ∀ (m : Nat) (k : Nat) (x2 x3 : Int32) (hm : m + k = 60) (h3 : x3 = nI k), GJ Z Γ h 0 0 4 [(3, .int x3), (2, .int x2), (1, .ref (ad 1 o 0)), (0, .ref (ad 2 r q))] [] := by
    intro m
    induction m with
    | zero =>
      intro k x2 x3 hm h3
      refine g_iload_n X dX2_partyOf_4 rfl ?_
      refine g_aload_n X dX2_partyOf_5 rfl ?_
      refine gp_geti (j := 1) X hR hl cl_X2 lk_X2_17 rfl (by decide) rfl rfl dX2_partyOf_6 (fun x6 e6 => ?_)
      refine g_icmp_ge 52 X dX2_partyOf_9 (by decide) (fun c9 => ?_) (fun c9 => ?_)
      · skip
        refine g_iload_n X dX2_partyOf_52 rfl ?_
        refine g_ireturn X E rfl dX2_partyOf_53 (by decide) (by decide) ?_
        exact ⟨_, rfl, trivial, rfl⟩
      · skip
        refine g_iload_n X dX2_partyOf_12 rfl ?_
        refine g_aload_n X dX2_partyOf_13 rfl ?_
        refine gp_get (j := 0) (v := .ref (ad 13 r q)) X hR hl cl_X2 lk_X2_11 rfl (by decide) rfl rfl dX2_partyOf_14 ?_
        refine gp_alen (v := 60) X hR hl G.t2 rfl rfl dX2_partyOf_17 ?_
        refine g_icmp_ge 52 X dX2_partyOf_18 (by decide) (fun c18 => ?_) (fun c18 => ?_)
        · skip
          refine g_iload_n X dX2_partyOf_52 rfl ?_
          refine g_ireturn X E rfl dX2_partyOf_53 (by decide) (by decide) ?_
          exact ⟨_, rfl, trivial, rfl⟩
        · skip
          exact absurd c18 (by rw [h3]; exact nI_nlt (b := 60) (by omega) (by omega))
    | succ m ih =>
      intro k x2 x3 hm h3
      refine g_iload_n X dX2_partyOf_4 rfl ?_
      refine g_aload_n X dX2_partyOf_5 rfl ?_
      refine gp_geti (j := 1) X hR hl cl_X2 lk_X2_17 rfl (by decide) rfl rfl dX2_partyOf_6 (fun x6 e6 => ?_)
      refine g_icmp_ge 52 X dX2_partyOf_9 (by decide) (fun c9 => ?_) (fun c9 => ?_)
      · skip
        refine g_iload_n X dX2_partyOf_52 rfl ?_
        refine g_ireturn X E rfl dX2_partyOf_53 (by decide) (by decide) ?_
        exact ⟨_, rfl, trivial, rfl⟩
      · skip
        refine g_iload_n X dX2_partyOf_12 rfl ?_
        refine g_aload_n X dX2_partyOf_13 rfl ?_
        refine gp_get (j := 0) (v := .ref (ad 13 r q)) X hR hl cl_X2 lk_X2_11 rfl (by decide) rfl rfl dX2_partyOf_14 ?_
        refine gp_alen (v := 60) X hR hl G.t2 rfl rfl dX2_partyOf_17 ?_
        refine g_icmp_ge 52 X dX2_partyOf_18 (by decide) (fun c18 => ?_) (fun c18 => ?_)
        · skip
          refine g_iload_n X dX2_partyOf_52 rfl ?_
          refine g_ireturn X E rfl dX2_partyOf_53 (by decide) (by decide) ?_
          exact ⟨_, rfl, trivial, rfl⟩
        · skip
          refine g_aload_n X dX2_partyOf_21 rfl ?_
          refine gp_get (j := 0) (v := .ref (ad 13 r q)) X hR hl cl_X2 lk_X2_11 rfl (by decide) rfl rfl dX2_partyOf_22 ?_
          refine g_iload_n X dX2_partyOf_25 rfl ?_
          refine gp_aald_map (j := k) X hR hl G.t2 rfl h3 (by omega) (by decide) dX2_partyOf_26 (fun g26 h26 => ?_) (fun h26 => ?_)
          · skip
            have hl26 : gLive P 1 g26 0 := ⟨hL.mem h26, rfl⟩
            refine g_astore (lv' := [(4, .ref (ad 1 g26 0)), (3, .int x3), (2, .int x2), (1, .ref (ad 1 o 0)), (0, .ref (ad 2 r q))]) X dX2_partyOf_27 (by decide) rfl ?_
            refine g_aload X dX2_partyOf_29 rfl ?_
            refine g_ifnull X dX2_partyOf_31 ?_
            refine g_aload X dX2_partyOf_34 rfl ?_
            refine g_aload_n X dX2_partyOf_36 rfl ?_
            refine gp_V X RM lm_X2_21 (c_X1_comesWith G hR hl26 ho) cl_X1 hR hl26 rfl rfl rfl (by decide) (by decide) (by decide) dX2_partyOf_37 (fun v h1 q => ?_) (fun _ _ q => q.elim)
            obtain ⟨x37, rfl, e37, rfl⟩ := q
            refine GJ.seq (st' := [.int x37]) rfl ?_
            refine g_if_eq 46 X dX2_partyOf_40 (by decide) (fun c40 => ?_) (fun c40 => ?_)
            · skip
              refine gp_iinc 1 X dX2_partyOf_46 rfl (by decide) (fun x46 e46 => ?_)
              refine GJ.leq (lv' := [(3, .int x46), (4, .ref (ad 1 g26 0)), (2, .int x2), (1, .ref (ad 1 o 0)), (0, .ref (ad 2 r q))]) rfl ?_
              refine g_goto 4 X dX2_partyOf_49 (by decide) ?_
              refine GJ.pick [0, 2, 3, 4] rfl ?_
              exact ih (k + 1) x2 x46 (by omega) (by rw [e46, h3]; exact nI_1 k)
            · skip
              refine gp_iinc 2 X dX2_partyOf_43 rfl (by decide) (fun x43 e43 => ?_)
              refine GJ.leq (lv' := [(2, .int x43), (4, .ref (ad 1 g26 0)), (3, .int x3), (1, .ref (ad 1 o 0)), (0, .ref (ad 2 r q))]) rfl ?_
              refine gp_iinc 2 X dX2_partyOf_46 rfl (by decide) (fun x46 e46 => ?_)
              refine GJ.leq (lv' := [(3, .int x46), (2, .int x43), (4, .ref (ad 1 g26 0)), (1, .ref (ad 1 o 0)), (0, .ref (ad 2 r q))]) rfl ?_
              refine g_goto 4 X dX2_partyOf_49 (by decide) ?_
              refine GJ.pick [0, 1, 3, 4] rfl ?_
              exact ih (k + 1) x43 x46 (by omega) (by rw [e46, h3]; exact nI_1 k)
          · skip
            refine g_astoreN (lv' := [(4, .null), (3, .int x3), (2, .int x2), (1, .ref (ad 1 o 0)), (0, .ref (ad 2 r q))]) X dX2_partyOf_27 (by decide) rfl ?_
            refine g_aloadN X dX2_partyOf_29 rfl ?_
            refine g_ifnullN 46 X dX2_partyOf_31 (by decide) ?_
            refine gp_iinc 1 X dX2_partyOf_46 rfl (by decide) (fun x46 e46 => ?_)
            refine GJ.leq (lv' := [(3, .int x46), (4, .null), (2, .int x2), (1, .ref (ad 1 o 0)), (0, .ref (ad 2 r q))]) rfl ?_
            refine g_goto 4 X dX2_partyOf_49 (by decide) ?_
            refine GJ.pick [0, 2, 3, 4] rfl ?_
            exact ih (k + 1) x2 x46 (by omega) (by rw [e46, h3]; exact nI_1 k)
  refine g_iconst (v := 0) X dX2_partyOf_0 (by decide) ?_
  refine g_istore_n (lv' := [(2, .int 0), (0, .ref (ad 2 r q)), (1, .ref (ad 1 o 0))]) X dX2_partyOf_1 (by decide) rfl ?_
  refine g_iconst (v := 0) X dX2_partyOf_2 (by decide) ?_
  refine g_istore_n (lv' := [(3, .int 0), (2, .int 0), (0, .ref (ad 2 r q)), (1, .ref (ad 1 o 0))]) X dX2_partyOf_3 (by decide) rfl ?_
  refine GJ.pick [0, 1, 3, 2] rfl ?_
  exact L 60 0 0 0 rfl rfl
end GLINE
