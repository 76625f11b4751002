/-! queues: pure words and contracts; the state with a queue's places as a list -/
section GLINE
variable {Z : gEnv} {Γ : gCtx} {cc : ByteArray} {own : String} {nL : Nat} {ret : Option FieldType} {h : gH} {k n pc : Nat} {lv lv' : List (Nat × Value)} {st st' : List Value} {ad : gAd} {P : gP}
/-- the words of Math.max, Math.min -/
def gLMax (own : String) (idx : Nat) : Prop := Cond.methodLink own idx Lib.Math.max.name ∈ gT ∧ Cond.static Lib.Math.max.name ∈ gT ∧ Cond.initialized "java/lang/Math" ∈ gT ∧ Cond.code Lib.Math.max.name Lib.Math.max.code 2 (some .int) ∈ gT
def gLMin (own : String) (idx : Nat) : Prop := Cond.methodLink own idx Lib.Math.min.name ∈ gT ∧ Cond.static Lib.Math.min.name ∈ gT ∧ Cond.initialized "java/lang/Math" ∈ gT ∧ Cond.code Lib.Math.min.name Lib.Math.min.code 2 (some .int) ∈ gT
theorem gp_max {idx D M S : Nat} {x y : Int32} (X : gOK Z Γ cc own nL ret) (RM : Γ.2.2.1 = gRm D M S) (L : gLMax own idx) (hD : 1 ≤ D ∧ (st.map fun v => v.category).sum + 13 ≤ 50 * D) (hf : k ≤ M ∧ n ≤ S) (d : decode cc pc = .ok (.invokestatic idx, 3)) (kk : ∀ z : Int32, z = (if x < y then y else x) → GJ Z Γ h k n (pc + 3) lv (.int z :: st)) : GJ Z Γ h k n pc lv (.int y :: .int x :: st) := fun H locs ls hw hS hl =>
  va_mmax X.exec X.bytes (by rw [X.maxl]; exact (hl.1.trans X.nl).symm) X.ow (X.wd L.1) (X.wd L.2.1) (X.wd L.2.2.1) (X.wd L.2.2.2) (by rw [RM]; exact hD.1) (by rw [RM]; exact hD.2) (by rw [RM]; exact hf.1) (by rw [RM]; exact hf.2) d (kk _ rfl H locs ls hw hS hl)
theorem gp_min {idx D M S : Nat} {x y : Int32} (X : gOK Z Γ cc own nL ret) (RM : Γ.2.2.1 = gRm D M S) (L : gLMin own idx) (hD : 1 ≤ D ∧ (st.map fun v => v.category).sum + 13 ≤ 50 * D) (hf : k ≤ M ∧ n ≤ S) (d : decode cc pc = .ok (.invokestatic idx, 3)) (kk : ∀ z : Int32, z = (if y < x then y else x) → GJ Z Γ h k n (pc + 3) lv (.int z :: st)) : GJ Z Γ h k n pc lv (.int y :: .int x :: st) := fun H locs ls hw hS hl =>
  va_mmin X.exec X.bytes (by rw [X.maxl]; exact (hl.1.trans X.nl).symm) X.ow (X.wd L.1) (X.wd L.2.1) (X.wd L.2.2.1) (X.wd L.2.2.2) (by rw [RM]; exact hD.1) (by rw [RM]; exact hD.2) (by rw [RM]; exact hf.1) (by rw [RM]; exact hf.2) d (kk _ rfl H locs ls hw hS hl)
theorem lm_X1_59 : gLMax RX1 59 := ⟨gT_at 910 (by decide +kernel) (by decide +kernel), gT_at 789 (by decide +kernel) (by decide +kernel), gT_at 35 (by decide +kernel) (by decide +kernel), gT_at 790 (by decide +kernel) (by decide +kernel)⟩
theorem lm_X1_65 : gLMin RX1 65 := ⟨gT_at 766 (by decide +kernel) (by decide +kernel), gT_at 767 (by decide +kernel) (by decide +kernel), gT_at 35 (by decide +kernel) (by decide +kernel), gT_at 768 (by decide +kernel) (by decide +kernel)⟩
theorem lm_X5_77 : gLMax RX5 77 := ⟨gT_at 788 (by decide +kernel) (by decide +kernel), gT_at 789 (by decide +kernel) (by decide +kernel), gT_at 35 (by decide +kernel) (by decide +kernel), gT_at 790 (by decide +kernel) (by decide +kernel)⟩
theorem lm_L_171 : gLMin RL 171 := ⟨gT_at 1013 (by decide +kernel) (by decide +kernel), gT_at 767 (by decide +kernel) (by decide +kernel), gT_at 35 (by decide +kernel) (by decide +kernel), gT_at 768 (by decide +kernel) (by decide +kernel)⟩
theorem lm_L_176 : gLMax RL 176 := ⟨gT_at 1014 (by decide +kernel) (by decide +kernel), gT_at 789 (by decide +kernel) (by decide +kernel), gT_at 35 (by decide +kernel) (by decide +kernel), gT_at 790 (by decide +kernel) (by decide +kernel)⟩
/-- the places of a queue as a function, as a list; the riders of a train as a list -/
def sPL (P : gP) (r q : Nat) (f : Nat → Option Nat) : gP := (P.1, P.2.1, P.2.2.1, fun r' i' j' => if r' = r ∧ i' = q then f j' else P.2.2.2.1 r' i' j', P.2.2.2.2)
def sRD (P : gP) (r i : Nat) (f : Nat → Option Nat) : gP := (P.1, P.2.1, fun r' i' j' => if r' = r ∧ i' = i then f j' else P.2.2.1 r' i' j', P.2.2.2)
def sLn (P : gP) (r q : Nat) (l : List Nat) : gP := sPL (uI P 2 r q 1 (nI l.length)) r q (fun j => l[j]?)
def sTr (P : gP) (r i : Nat) (l : List Nat) : gP := sRD (uI P 5 r i 2 (nI l.length)) r i (fun j => l[j]?)
theorem pI_sPL (P : gP) (r0 i0 : Nat) (f : Nat → Option Nat) (k r i s : Nat) : pI (sPL P r0 i0 f) k r i s = pI P k r i s := rfl
theorem pJ_sPL (P : gP) (r0 i0 : Nat) (f : Nat → Option Nat) (s : Nat) : pJ (sPL P r0 i0 f) s = pJ P s := rfl
theorem pRD_sPL (P : gP) (r0 i0 : Nat) (f : Nat → Option Nat) (r i j : Nat) : pRD (sPL P r0 i0 f) r i j = pRD P r i j := rfl
theorem pPL_sPL (P : gP) (r0 i0 : Nat) (f : Nat → Option Nat) (r i j : Nat) : pPL (sPL P r0 i0 f) r i j = if r = r0 ∧ i = i0 then f j else pPL P r i j := rfl
theorem pGL_sPL (P : gP) (r0 i0 : Nat) (f : Nat → Option Nat) (g : Nat) : pGL (sPL P r0 i0 f) g = pGL P g := rfl
theorem pnR_sPL (P : gP) (r0 i0 : Nat) (f : Nat → Option Nat)  : pnR (sPL P r0 i0 f) = pnR P := rfl
theorem pnG_sPL (P : gP) (r0 i0 : Nat) (f : Nat → Option Nat)  : pnG (sPL P r0 i0 f) = pnG P := rfl
theorem pnB_sPL (P : gP) (r0 i0 : Nat) (f : Nat → Option Nat) (r : Nat) : pnB (sPL P r0 i0 f) r = pnB P r := rfl
theorem pnT_sPL (P : gP) (r0 i0 : Nat) (f : Nat → Option Nat) (r : Nat) : pnT (sPL P r0 i0 f) r = pnT P r := rfl
theorem pnX_sPL (P : gP) (r0 i0 : Nat) (f : Nat → Option Nat)  : pnX (sPL P r0 i0 f) = pnX P := rfl
theorem gLive_sPL (P : gP) (r0 i0 : Nat) (f : Nat → Option Nat) (k r i : Nat) : gLive (sPL P r0 i0 f) k r i = gLive P k r i := rfl
theorem pI_sRD (P : gP) (r0 i0 : Nat) (f : Nat → Option Nat) (k r i s : Nat) : pI (sRD P r0 i0 f) k r i s = pI P k r i s := rfl
theorem pJ_sRD (P : gP) (r0 i0 : Nat) (f : Nat → Option Nat) (s : Nat) : pJ (sRD P r0 i0 f) s = pJ P s := rfl
theorem pRD_sRD (P : gP) (r0 i0 : Nat) (f : Nat → Option Nat) (r i j : Nat) : pRD (sRD P r0 i0 f) r i j = if r = r0 ∧ i = i0 then f j else pRD P r i j := rfl
theorem pPL_sRD (P : gP) (r0 i0 : Nat) (f : Nat → Option Nat) (r i j : Nat) : pPL (sRD P r0 i0 f) r i j = pPL P r i j := rfl
theorem pGL_sRD (P : gP) (r0 i0 : Nat) (f : Nat → Option Nat) (g : Nat) : pGL (sRD P r0 i0 f) g = pGL P g := rfl
theorem pnR_sRD (P : gP) (r0 i0 : Nat) (f : Nat → Option Nat)  : pnR (sRD P r0 i0 f) = pnR P := rfl
theorem pnG_sRD (P : gP) (r0 i0 : Nat) (f : Nat → Option Nat)  : pnG (sRD P r0 i0 f) = pnG P := rfl
theorem pnB_sRD (P : gP) (r0 i0 : Nat) (f : Nat → Option Nat) (r : Nat) : pnB (sRD P r0 i0 f) r = pnB P r := rfl
theorem pnT_sRD (P : gP) (r0 i0 : Nat) (f : Nat → Option Nat) (r : Nat) : pnT (sRD P r0 i0 f) r = pnT P r := rfl
theorem pnX_sRD (P : gP) (r0 i0 : Nat) (f : Nat → Option Nat)  : pnX (sRD P r0 i0 f) = pnX P := rfl
theorem gLive_sRD (P : gP) (r0 i0 : Nat) (f : Nat → Option Nat) (k r i : Nat) : gLive (sRD P r0 i0 f) k r i = gLive P k r i := rfl
theorem pI_sLn (P : gP) (r0 i0 : Nat) (l : List Nat) (k r i s : Nat) : pI (sLn P r0 i0 l) k r i s = if k = 2 ∧ r = r0 ∧ i = i0 ∧ s = 1 then nI l.length else pI P k r i s := rfl
theorem pJ_sLn (P : gP) (r0 i0 : Nat) (l : List Nat) (s : Nat) : pJ (sLn P r0 i0 l) s = pJ P s := rfl
theorem pRD_sLn (P : gP) (r0 i0 : Nat) (l : List Nat) (r i j : Nat) : pRD (sLn P r0 i0 l) r i j = pRD P r i j := rfl
theorem pPL_sLn (P : gP) (r0 i0 : Nat) (l : List Nat) (r i j : Nat) : pPL (sLn P r0 i0 l) r i j = if r = r0 ∧ i = i0 then l[j]? else pPL P r i j := rfl
theorem pGL_sLn (P : gP) (r0 i0 : Nat) (l : List Nat) (g : Nat) : pGL (sLn P r0 i0 l) g = pGL P g := rfl
theorem pnR_sLn (P : gP) (r0 i0 : Nat) (l : List Nat)  : pnR (sLn P r0 i0 l) = pnR P := rfl
theorem pnG_sLn (P : gP) (r0 i0 : Nat) (l : List Nat)  : pnG (sLn P r0 i0 l) = pnG P := rfl
theorem pnB_sLn (P : gP) (r0 i0 : Nat) (l : List Nat) (r : Nat) : pnB (sLn P r0 i0 l) r = pnB P r := rfl
theorem pnT_sLn (P : gP) (r0 i0 : Nat) (l : List Nat) (r : Nat) : pnT (sLn P r0 i0 l) r = pnT P r := rfl
theorem pnX_sLn (P : gP) (r0 i0 : Nat) (l : List Nat)  : pnX (sLn P r0 i0 l) = pnX P := rfl
theorem gLive_sLn (P : gP) (r0 i0 : Nat) (l : List Nat) (k r i : Nat) : gLive (sLn P r0 i0 l) k r i = gLive P k r i := rfl
theorem pI_sTr (P : gP) (r0 i0 : Nat) (l : List Nat) (k r i s : Nat) : pI (sTr P r0 i0 l) k r i s = if k = 5 ∧ r = r0 ∧ i = i0 ∧ s = 2 then nI l.length else pI P k r i s := rfl
theorem pJ_sTr (P : gP) (r0 i0 : Nat) (l : List Nat) (s : Nat) : pJ (sTr P r0 i0 l) s = pJ P s := rfl
theorem pRD_sTr (P : gP) (r0 i0 : Nat) (l : List Nat) (r i j : Nat) : pRD (sTr P r0 i0 l) r i j = if r = r0 ∧ i = i0 then l[j]? else pRD P r i j := rfl
theorem pPL_sTr (P : gP) (r0 i0 : Nat) (l : List Nat) (r i j : Nat) : pPL (sTr P r0 i0 l) r i j = pPL P r i j := rfl
theorem pGL_sTr (P : gP) (r0 i0 : Nat) (l : List Nat) (g : Nat) : pGL (sTr P r0 i0 l) g = pGL P g := rfl
theorem pnR_sTr (P : gP) (r0 i0 : Nat) (l : List Nat)  : pnR (sTr P r0 i0 l) = pnR P := rfl
theorem pnG_sTr (P : gP) (r0 i0 : Nat) (l : List Nat)  : pnG (sTr P r0 i0 l) = pnG P := rfl
theorem pnB_sTr (P : gP) (r0 i0 : Nat) (l : List Nat) (r : Nat) : pnB (sTr P r0 i0 l) r = pnB P r := rfl
theorem pnT_sTr (P : gP) (r0 i0 : Nat) (l : List Nat) (r : Nat) : pnT (sTr P r0 i0 l) r = pnT P r := rfl
theorem pnX_sTr (P : gP) (r0 i0 : Nat) (l : List Nat)  : pnX (sTr P r0 i0 l) = pnX P := rfl
theorem gLive_sTr (P : gP) (r0 i0 : Nat) (l : List Nat) (k r i : Nat) : gLive (sTr P r0 i0 l) k r i = gLive P k r i := rfl
/-- the queue holds this list of guests -/
def Ln (P : gP) (r q : Nat) (l : List Nat) : Prop := pI P 2 r q 1 = nI l.length ∧ (∀ j, pPL P r q j = l[j]?) ∧ l.length ≤ 60 ∧ ∀ g ∈ l, g < pnG P
/-- the train holds this list of riders -/
def Tr (P : gP) (r i : Nat) (l : List Nat) : Prop := pI P 5 r i 2 = nI l.length ∧ (∀ j, pRD P r i j = l[j]?) ∧ l.length ≤ 8 ∧ ∀ g ∈ l, g < pnG P
theorem uI_id {P : gP} {k r i s : Nat} {v : Int32} (h : pI P k r i s = v) : uI P k r i s v = P := by
  subst h
  obtain ⟨P1, P2⟩ := P
  unfold uI pI
  congr 1
  funext k' r' i' s'
  dsimp only
  split
  next hh => obtain ⟨rfl, rfl, rfl, rfl⟩ := hh; rfl
  next => rfl
theorem sPL_id {P : gP} {r q : Nat} {f : Nat → Option Nat} (h : ∀ j, pPL P r q j = f j) : sPL P r q f = P := by
  obtain ⟨P1, P2, P3, P4, P5⟩ := P
  unfold sPL
  dsimp only
  congr 4
  funext r' i' j'
  split
  next hh => obtain ⟨rfl, rfl⟩ := hh; exact (h j').symm
  next => rfl
theorem sRD_id {P : gP} {r q : Nat} {f : Nat → Option Nat} (h : ∀ j, pRD P r q j = f j) : sRD P r q f = P := by
  obtain ⟨P1, P2, P3, P4⟩ := P
  unfold sRD
  dsimp only
  congr 3
  funext r' i' j'
  split
  next hh => obtain ⟨rfl, rfl⟩ := hh; exact (h j').symm
  next => rfl
theorem sLn_id {P : gP} {r q : Nat} {l : List Nat} (h : Ln P r q l) : sLn P r q l = P := by
  unfold sLn
  rw [uI_id h.1]
  exact sPL_id h.2.1
theorem uPL_sPL {P : gP} {r q j : Nat} {f : Nat → Option Nat} {v : Option Nat} : uPL (sPL P r q f) r q j v = sPL P r q (fun j' => if j' = j then v else f j') := by
  unfold uPL sPL
  dsimp only
  congr 4
  funext r' i' j'
  by_cases h1 : r' = r ∧ i' = q
  · by_cases h2 : j' = j <;> simp [h1, h2]
  · rw [if_neg (fun hh => h1 ⟨hh.1, hh.2.1⟩), if_neg h1, if_neg h1]
theorem uRD_sRD {P : gP} {r q j : Nat} {f : Nat → Option Nat} {v : Option Nat} : uRD (sRD P r q f) r q j v = sRD P r q (fun j' => if j' = j then v else f j') := by
  unfold uRD sRD
  dsimp only
  congr 3
  funext r' i' j'
  by_cases h1 : r' = r ∧ i' = q
  · by_cases h2 : j' = j <;> simp [h1, h2]
  · rw [if_neg (fun hh => h1 ⟨hh.1, hh.2.1⟩), if_neg h1, if_neg h1]
theorem uPL_self {P : gP} {r q j : Nat} {v : Option Nat} : uPL P r q j v = sPL P r q (fun j' => if j' = j then v else pPL P r q j') := by
  rw [← uPL_sPL, sPL_id (fun _ => rfl)]
theorem uRD_self {P : gP} {r q j : Nat} {v : Option Nat} : uRD P r q j v = sRD P r q (fun j' => if j' = j then v else pRD P r q j') := by
  rw [← uRD_sRD, sRD_id (fun _ => rfl)]
theorem uI_sPL {P : gP} {r q k0 r0 i0 s0 : Nat} {v : Int32} {f : Nat → Option Nat} : uI (sPL P r q f) k0 r0 i0 s0 v = sPL (uI P k0 r0 i0 s0 v) r q f := rfl
theorem uI_sRD {P : gP} {r q k0 r0 i0 s0 : Nat} {v : Int32} {f : Nat → Option Nat} : uI (sRD P r q f) k0 r0 i0 s0 v = sRD (uI P k0 r0 i0 s0 v) r q f := rfl
theorem uPL_uI {P : gP} {r q j k0 r0 i0 s0 : Nat} {v : Int32} {w : Option Nat} : uPL (uI P k0 r0 i0 s0 v) r q j w = uI (uPL P r q j w) k0 r0 i0 s0 v := rfl
theorem Ln.at {P : gP} {r q : Nat} {l : List Nat} (h : Ln P r q l) {j : Nat} (hj : j < l.length) : pPL P r q j = some l[j] := by rw [h.2.1, List.getElem?_eq_getElem hj]
theorem Ln.mem {P : gP} {r q : Nat} {l : List Nat} (h : Ln P r q l) {j g : Nat} (hj : pPL P r q j = some g) : g < pnG P := h.2.2.2 g (List.mem_of_getElem? ((h.2.1 j).symm.trans hj))
theorem Ln.lt {P : gP} {r q : Nat} {l : List Nat} (h : Ln P r q l) {j : Nat} : (nI j < pI P 2 r q 1 ↔ j < l.length) ∨ 2 ^ 31 ≤ j := by
  rcases Nat.lt_or_ge j (2 ^ 31) with hj | hj
  · rw [h.1]; exact Or.inl (nI_ltI hj (by have := h.2.2.1; omega))
  · exact Or.inr hj
def fWith (P : gP) (g o : Nat) : Bool := decide (g = o) || (decide (¬ pI P 1 g 0 2 = 0) && decide (pI P 1 g 0 2 = pI P 1 o 0 2))
set_option maxHeartbeats 4000000 in
set_option maxRecDepth 100000 in
theorem c_X1_comesWith {Z : gEnv} {ad : gAd} {P : gP} {h : gH} (G : gG Z) (hR : gRep Z ad P h) {g : Nat} (hl : gLive P 1 g 0) {o : Nat} (ho : gLive P 1 o 0) : gMet Z yX1_comesWith cX1_comesWith 2 ((Option.some FieldType.boolean)) 1 0 0 [.ref (ad 1 g 0), .ref (ad 1 o 0)] h (qI h (fun x => x = if fWith P g o then 1 else 0)) (qN) := by
  refine g_enter (lv := [(0, .ref (ad 1 g 0)), (1, .ref (ad 1 o 0))]) G.2 (by decide +kernel) (Nat.le_of_ble_eq_true rfl) rfl (fun Γ X Nt E RM => ?_)
  refine g_aload_n X dX1_comesWith_0 rfl ?_
  refine g_aload_n X dX1_comesWith_1 rfl ?_
  refine g_acmp_eq 23 X dX1_comesWith_2 (by decide) (fun c2 => ?_) (fun c2 => ?_)
  · skip
    refine g_iconst (v := 1) X dX1_comesWith_23 (by decide) ?_
    refine g_goto 28 X dX1_comesWith_24 (by decide) ?_
    refine g_ireturn X E (by decide) dX1_comesWith_28 (by decide) (by decide) ?_
    have hgo : ad 1 g 0 = ad 1 o 0 ↔ g = o := ⟨fun e => (hR.2 _ _ _ _ _ _ hl ho e).2.1, fun e => by rw [e]⟩
    refine ⟨_, rfl, ?_, rfl⟩
    subst_vars
    simp_all [fWith]
  · skip
    refine g_aload_n X dX1_comesWith_5 rfl ?_
    refine gp_geti (j := 2) X hR hl cl_X1 lk_X1_25 rfl (by decide) rfl rfl dX1_comesWith_6 (fun x6 e6 => ?_)
    refine g_if_eq 27 X dX1_comesWith_9 (by decide) (fun c9 => ?_) (fun c9 => ?_)
    · skip
      refine g_iconst (v := 0) X dX1_comesWith_27 (by decide) ?_
      refine g_ireturn X E (by decide) dX1_comesWith_28 (by decide) (by decide) ?_
      have hgo : ad 1 g 0 = ad 1 o 0 ↔ g = o := ⟨fun e => (hR.2 _ _ _ _ _ _ hl ho e).2.1, fun e => by rw [e]⟩
      refine ⟨_, rfl, ?_, rfl⟩
      subst_vars
      simp_all [fWith]
    · skip
      refine g_aload_n X dX1_comesWith_12 rfl ?_
      refine gp_geti (j := 2) X hR hl cl_X1 lk_X1_25 rfl (by decide) rfl rfl dX1_comesWith_13 (fun x13 e13 => ?_)
      refine g_aload_n X dX1_comesWith_16 rfl ?_
      refine gp_geti (j := 2) X hR ho cl_X1 lk_X1_25 rfl (by decide) rfl rfl dX1_comesWith_17 (fun x17 e17 => ?_)
      refine g_icmp_ne 27 X dX1_comesWith_20 (by decide) (fun c20 => ?_) (fun c20 => ?_)
      · skip
        refine g_iconst (v := 0) X dX1_comesWith_27 (by decide) ?_
        refine g_ireturn X E (by decide) dX1_comesWith_28 (by decide) (by decide) ?_
        have hgo : ad 1 g 0 = ad 1 o 0 ↔ g = o := ⟨fun e => (hR.2 _ _ _ _ _ _ hl ho e).2.1, fun e => by rw [e]⟩
        refine ⟨_, rfl, ?_, rfl⟩
        subst_vars
        simp_all [fWith]
      · skip
        refine g_iconst (v := 1) X dX1_comesWith_23 (by decide) ?_
        refine g_goto 28 X dX1_comesWith_24 (by decide) ?_
        refine g_ireturn X E (by decide) dX1_comesWith_28 (by decide) (by decide) ?_
        have hgo : ad 1 g 0 = ad 1 o 0 ↔ g = o := ⟨fun e => (hR.2 _ _ _ _ _ _ hl ho e).2.1, fun e => by rw [e]⟩
        refine ⟨_, rfl, ?_, rfl⟩
        subst_vars
        simp_all [fWith]
set_option maxHeartbeats 4000000 in
set_option maxRecDepth 100000 in
theorem c_X2_partyOf {Z : gEnv} {ad : gAd} {P : gP} {h : gH} (G : gG Z) (hR : gRep Z ad P h) {r q : Nat} (hl : gLive P 2 r q) {l : List Nat} (hL : Ln P r q l) {o : Nat} (ho : gLive P 1 o 0) : gMet Z yX2_partyOf cX2_partyOf 5 ((Option.some FieldType.int)) 2 0 0 [.ref (ad 2 r q), .ref (ad 1 o 0)] h (qI h (fun _ => True)) (qN) := by
  refine g_enter (lv := [(0, .ref (ad 2 r q)), (1, .ref (ad 1 o 0))]) G.2 (by decide +kernel) (Nat.le_of_ble_eq_true rfl) rfl (fun Γ X Nt E RM => ?_)
  have L : ∀ (m : Nat) (k : Nat) (x2 x3 : Int32) (hm : m + k = 60) (h3 : x3 = nI k), GJ Z Γ h 0 0 4 [(3, .int x3), (2, .int x2), (1, .ref (ad 1 o 0)), (0, .ref (ad 2 r q))] [] := by
    intro m
    induction m with
    | zero =>
      intro k x2 x3 hm h3
      refine g_iload_n X dX2_partyOf_4 rfl ?_
      refine g_aload_n X dX2_partyOf_5 rfl ?_
      refine gp_geti (j := 1) X hR hl cl_X2 lk_X2_17 rfl (by decide) rfl rfl dX2_partyOf_6 (fun x6 e6 => ?_)
      refine g_icmp_ge 52 X dX2_partyOf_9 (by decide) (fun c9 => ?_) (fun c9 => ?_)
      · skip
        refine g_iload_n X dX2_partyOf_52 rfl ?_
        refine g_ireturn X E rfl dX2_partyOf_53 (by decide) (by decide) ?_
        exact ⟨_, rfl, trivial, rfl⟩
      · skip
        refine g_iload_n X dX2_partyOf_12 rfl ?_
        refine g_aload_n X dX2_partyOf_13 rfl ?_
        refine gp_get (j := 0) (v := .ref (ad 13 r q)) X hR hl cl_X2 lk_X2_11 rfl (by decide) rfl rfl dX2_partyOf_14 ?_
        refine gp_alen (v := 60) X hR hl G.t2 rfl rfl dX2_partyOf_17 ?_
        refine g_icmp_ge 52 X dX2_partyOf_18 (by decide) (fun c18 => ?_) (fun c18 => ?_)
        · skip
          refine g_iload_n X dX2_partyOf_52 rfl ?_
          refine g_ireturn X E rfl dX2_partyOf_53 (by decide) (by decide) ?_
          exact ⟨_, rfl, trivial, rfl⟩
        · skip
          exact absurd c18 (by rw [h3]; exact nI_nlt (b := 60) (by omega) (by omega))
    | succ m ih =>
      intro k x2 x3 hm h3
      refine g_iload_n X dX2_partyOf_4 rfl ?_
      refine g_aload_n X dX2_partyOf_5 rfl ?_
      refine gp_geti (j := 1) X hR hl cl_X2 lk_X2_17 rfl (by decide) rfl rfl dX2_partyOf_6 (fun x6 e6 => ?_)
      refine g_icmp_ge 52 X dX2_partyOf_9 (by decide) (fun c9 => ?_) (fun c9 => ?_)
      · skip
        refine g_iload_n X dX2_partyOf_52 rfl ?_
        refine g_ireturn X E rfl dX2_partyOf_53 (by decide) (by decide) ?_
        exact ⟨_, rfl, trivial, rfl⟩
      · skip
        refine g_iload_n X dX2_partyOf_12 rfl ?_
        refine g_aload_n X dX2_partyOf_13 rfl ?_
        refine gp_get (j := 0) (v := .ref (ad 13 r q)) X hR hl cl_X2 lk_X2_11 rfl (by decide) rfl rfl dX2_partyOf_14 ?_
        refine gp_alen (v := 60) X hR hl G.t2 rfl rfl dX2_partyOf_17 ?_
        refine g_icmp_ge 52 X dX2_partyOf_18 (by decide) (fun c18 => ?_) (fun c18 => ?_)
        · skip
          refine g_iload_n X dX2_partyOf_52 rfl ?_
          refine g_ireturn X E rfl dX2_partyOf_53 (by decide) (by decide) ?_
          exact ⟨_, rfl, trivial, rfl⟩
        · skip
          refine g_aload_n X dX2_partyOf_21 rfl ?_
          refine gp_get (j := 0) (v := .ref (ad 13 r q)) X hR hl cl_X2 lk_X2_11 rfl (by decide) rfl rfl dX2_partyOf_22 ?_
          refine g_iload_n X dX2_partyOf_25 rfl ?_
          refine gp_aald_map (j := k) X hR hl G.t2 rfl h3 (by omega) (by decide) dX2_partyOf_26 (fun g26 h26 => ?_) (fun h26 => ?_)
          · skip
            have hl26 : gLive P 1 g26 0 := ⟨hL.mem h26, rfl⟩
            refine g_astore (lv' := [(4, .ref (ad 1 g26 0)), (3, .int x3), (2, .int x2), (1, .ref (ad 1 o 0)), (0, .ref (ad 2 r q))]) X dX2_partyOf_27 (by decide) rfl ?_
            refine g_aload X dX2_partyOf_29 rfl ?_
            refine g_ifnull X dX2_partyOf_31 ?_
            refine g_aload X dX2_partyOf_34 rfl ?_
            refine g_aload_n X dX2_partyOf_36 rfl ?_
            refine gp_V X RM lm_X2_21 (c_X1_comesWith G hR hl26 ho) cl_X1 hR hl26 rfl rfl rfl (by decide) (by decide) (by decide) dX2_partyOf_37 (fun v h1 q => ?_) (fun _ _ q => q.elim)
            obtain ⟨x37, rfl, e37, rfl⟩ := q
            refine GJ.seq (st' := [.int x37]) rfl ?_
            refine g_if_eq 46 X dX2_partyOf_40 (by decide) (fun c40 => ?_) (fun c40 => ?_)
            · skip
              refine gp_iinc 1 X dX2_partyOf_46 rfl (by decide) (fun x46 e46 => ?_)
              refine GJ.leq (lv' := [(3, .int x46), (4, .ref (ad 1 g26 0)), (2, .int x2), (1, .ref (ad 1 o 0)), (0, .ref (ad 2 r q))]) rfl ?_
              refine g_goto 4 X dX2_partyOf_49 (by decide) ?_
              refine GJ.pick [0, 2, 3, 4] rfl ?_
              exact ih (k + 1) x2 x46 (by omega) (by rw [e46, h3]; exact nI_1 k)
            · skip
              refine gp_iinc 2 X dX2_partyOf_43 rfl (by decide) (fun x43 e43 => ?_)
              refine GJ.leq (lv' := [(2, .int x43), (4, .ref (ad 1 g26 0)), (3, .int x3), (1, .ref (ad 1 o 0)), (0, .ref (ad 2 r q))]) rfl ?_
              refine gp_iinc 2 X dX2_partyOf_46 rfl (by decide) (fun x46 e46 => ?_)
              refine GJ.leq (lv' := [(3, .int x46), (2, .int x43), (4, .ref (ad 1 g26 0)), (1, .ref (ad 1 o 0)), (0, .ref (ad 2 r q))]) rfl ?_
              refine g_goto 4 X dX2_partyOf_49 (by decide) ?_
              refine GJ.pick [0, 1, 3, 4] rfl ?_
              exact ih (k + 1) x43 x46 (by omega) (by rw [e46, h3]; exact nI_1 k)
          · skip
            refine g_astoreN (lv' := [(4, .null), (3, .int x3), (2, .int x2), (1, .ref (ad 1 o 0)), (0, .ref (ad 2 r q))]) X dX2_partyOf_27 (by decide) rfl ?_
            refine g_aloadN X dX2_partyOf_29 rfl ?_
            refine g_ifnullN 46 X dX2_partyOf_31 (by decide) ?_
            refine gp_iinc 1 X dX2_partyOf_46 rfl (by decide) (fun x46 e46 => ?_)
            refine GJ.leq (lv' := [(3, .int x46), (4, .null), (2, .int x2), (1, .ref (ad 1 o 0)), (0, .ref (ad 2 r q))]) rfl ?_
            refine g_goto 4 X dX2_partyOf_49 (by decide) ?_
            refine GJ.pick [0, 2, 3, 4] rfl ?_
            exact ih (k + 1) x2 x46 (by omega) (by rw [e46, h3]; exact nI_1 k)
  refine g_iconst (v := 0) X dX2_partyOf_0 (by decide) ?_
  refine g_istore_n (lv' := [(2, .int 0), (0, .ref (ad 2 r q)), (1, .ref (ad 1 o 0))]) X dX2_partyOf_1 (by decide) rfl ?_
  refine g_iconst (v := 0) X dX2_partyOf_2 (by decide) ?_
  refine g_istore_n (lv' := [(3, .int 0), (2, .int 0), (0, .ref (ad 2 r q)), (1, .ref (ad 1 o 0))]) X dX2_partyOf_3 (by decide) rfl ?_
  refine GJ.pick [0, 1, 3, 2] rfl ?_
  exact L 60 0 0 0 rfl rfl
theorem nI_sub1 {n : Nat} (h : 0 < n) : nI n - 1 = nI (n - 1) := by
  obtain ⟨m, rfl⟩ : ∃ m, n = m + 1 := ⟨n - 1, by omega⟩
  rw [nI_pred]
  rfl
theorem er_idx : ∀ (l : List Nat) (k o : Nat), l[k]? = some o → (∀ j, j < k → l[j]? ≠ some o) → l.erase o = l.eraseIdx k
  | [], k, o, h, _ => by simp at h
  | a :: t, 0, o, h, _ => by
    simp at h
    subst h
    simp
  | a :: t, k + 1, o, h, h2 => by
    have ha : a ≠ o := fun e => h2 0 (Nat.succ_pos k) (by rw [e]; rfl)
    rw [List.erase_cons_tail (by simpa using ha), List.eraseIdx_cons_succ, er_idx t k o (by simpa using h) (fun j hj => by have := h2 (j + 1) (by omega); simpa using this)]
theorem er_not {l : List Nat} {k o : Nat} (h : l.length ≤ k) (h2 : ∀ j, j < k → l[j]? ≠ some o) : l.erase o = l := by
  refine List.erase_of_not_mem (fun hm => ?_)
  obtain ⟨j, hj⟩ := List.getElem?_of_mem hm
  exact h2 j (Nat.lt_of_lt_of_le (List.getElem?_eq_some_iff.mp hj).1 h) hj
theorem idx_end {l f : List Nat} {i t : Nat} (hi : i < l.length) (hm : i + t + 1 = l.length) {F : Nat → Option Nat} (hf : ∀ j, F j = if i ≤ j ∧ j < i + t then l[j + 1]? else l[j]?) : (fun j => if j = l.length - 1 then none else F j) = fun j => (l.eraseIdx i)[j]? := by
  funext j
  rw [List.getElem?_eraseIdx]
  by_cases h1 : j = l.length - 1
  · rw [if_pos h1]
    have h3 : l[j + 1]? = none := List.getElem?_eq_none (by omega)
    by_cases h2 : j < i
    · omega
    · rw [if_neg h2, h3]
  · rw [if_neg h1, hf j]
    by_cases h2 : j < i
    · rw [if_neg (by omega), if_pos h2]
    · rw [if_neg h2]
      by_cases h4 : j < i + t
      · rw [if_pos ⟨by omega, h4⟩]
      · rw [if_neg (by omega), List.getElem?_eq_none (show l.length ≤ j by omega), List.getElem?_eq_none (show l.length ≤ j + 1 by omega)]
set_option maxHeartbeats 4000000 in
set_option maxRecDepth 100000 in
theorem c_X2_takeAt {Z : gEnv} {ad : gAd} {P : gP} {h : gH} (G : gG Z) (hR : gRep Z ad P h) {r q : Nat} (hl : gLive P 2 r q) {l : List Nat} (hL : Ln P r q l) {x : Int32} {i : Nat} (hx : x = nI i) (hi : i < l.length) : gMet Z yX2_takeAt cX2_takeAt 3 ((Option.none : Option FieldType)) 1 0 0 [.ref (ad 2 r q), .int x] h (qM (fun h2 => ∃ P2, gRep Z ad P2 h2 ∧ P2 = sLn P r q (l.eraseIdx i))) (qN) := by
  refine g_enter (lv := [(0, .ref (ad 2 r q)), (1, .int x)]) G.2 (by decide +kernel) (Nat.le_of_ble_eq_true rfl) rfl (fun Γ X Nt E RM => ?_)
  have L : ∀ (m : Nat) (t : Nat) (x2 : Int32) (f : Nat → Option Nat) (h : gH) (hR : gRep Z ad (sPL P r q f) h) (hm : m + (i + t) + 1 = l.length) (h2 : x2 = nI (i + t)) (hf : ∀ j, f j = if i ≤ j ∧ j < i + t then l[j + 1]? else l[j]?), GJ Z Γ h 0 0 27 [(2, .int x2), (1, .int x), (0, .ref (ad 2 r q))] [] := by
    intro m
    induction m with
    | zero =>
      intro t x2 f h hR hm h2 hf
      refine g_iload_n X dX2_takeAt_27 rfl ?_
      refine g_iconst (v := 1) X dX2_takeAt_28 (by decide) ?_
      refine g_iadd X dX2_takeAt_29 (fun x29 e29 => ?_)
      refine g_aload_n X dX2_takeAt_30 rfl ?_
      refine gp_geti (j := 1) X hR hl cl_X2 lk_X2_17 rfl (by decide) rfl rfl dX2_takeAt_31 (fun x31 e31 => ?_)
      refine g_icmp_ge 57 X dX2_takeAt_34 (by decide) (fun c34 => ?_) (fun c34 => ?_)
      · skip
        refine g_aload_n X dX2_takeAt_57 rfl ?_
        refine g_dup X dX2_takeAt_58 rfl ?_
        refine gp_geti (j := 1) X hR hl cl_X2 lk_X2_17 rfl (by decide) rfl rfl dX2_takeAt_59 (fun x59 e59 => ?_)
        refine g_iconst (v := 1) X dX2_takeAt_62 (by decide) ?_
        refine g_isub X dX2_takeAt_63 (fun x63 e63 => ?_)
        refine gp_puti (j := 1) X hR hl cl_X2 lk_X2_17 rfl (by decide) rfl (by decide) rfl rfl rfl dX2_takeAt_64 (fun h hR => ?_)
        refine g_aload_n X dX2_takeAt_67 rfl ?_
        refine gp_get (j := 0) (v := .ref (ad 13 r q)) X hR hl cl_X2 lk_X2_11 rfl (by decide) rfl rfl dX2_takeAt_68 ?_
        refine g_aload_n X dX2_takeAt_71 rfl ?_
        refine gp_geti (j := 1) X hR hl cl_X2 lk_X2_17 rfl (by decide) rfl rfl dX2_takeAt_72 (fun x72 e72 => ?_)
        refine g_null X dX2_takeAt_75 ?_
        refine gp_astPL (v := none) (j := (l.length - 1)) X G hR hl rfl (fun _ hh => by cases hh) (by rw [e72, pI_uI, if_pos ⟨rfl, rfl, rfl, rfl⟩, e63, e59, pI_sPL, hL.1]; exact nI_sub1 (by omega)) (by have := hL.2.2.1; omega) dX2_takeAt_76 (fun h hR => ?_)
        refine g_return X E dX2_takeAt_77 (by decide) (by decide) ?_
        refine ⟨rfl, _, hR, ?_⟩
        have hx63 : x63 = nI (l.eraseIdx i).length := by rw [e63, e59, pI_sPL, hL.1, List.length_eraseIdx_of_lt hi]; exact nI_sub1 (by omega)
        rw [uI_sPL, uPL_sPL, idx_end (f := []) hi (by omega) hf, hx63]
        rfl
      · skip
        exact absurd c34 (by rw [(show x31 = nI l.length from e31.trans hL.1), e29, h2, nI_1]; exact nI_nlt (by omega) (by have := hL.2.2.1; omega))
    | succ m ih =>
      intro t x2 f h hR hm h2 hf
      refine g_iload_n X dX2_takeAt_27 rfl ?_
      refine g_iconst (v := 1) X dX2_takeAt_28 (by decide) ?_
      refine g_iadd X dX2_takeAt_29 (fun x29 e29 => ?_)
      refine g_aload_n X dX2_takeAt_30 rfl ?_
      refine gp_geti (j := 1) X hR hl cl_X2 lk_X2_17 rfl (by decide) rfl rfl dX2_takeAt_31 (fun x31 e31 => ?_)
      refine g_icmp_ge 57 X dX2_takeAt_34 (by decide) (fun c34 => ?_) (fun c34 => ?_)
      · skip
        exact absurd (by rw [(show x31 = nI l.length from e31.trans hL.1), e29, h2, nI_1]; exact nI_lt (by omega) (by have := hL.2.2.1; omega)) c34
      · skip
        refine g_aload_n X dX2_takeAt_37 rfl ?_
        refine gp_get (j := 0) (v := .ref (ad 13 r q)) X hR hl cl_X2 lk_X2_11 rfl (by decide) rfl rfl dX2_takeAt_38 ?_
        refine g_iload_n X dX2_takeAt_41 rfl ?_
        refine g_aload_n X dX2_takeAt_42 rfl ?_
        refine gp_get (j := 0) (v := .ref (ad 13 r q)) X hR hl cl_X2 lk_X2_11 rfl (by decide) rfl rfl dX2_takeAt_43 ?_
        refine g_iload_n X dX2_takeAt_46 rfl ?_
        refine g_iconst (v := 1) X dX2_takeAt_47 (by decide) ?_
        refine g_iadd X dX2_takeAt_48 (fun x48 e48 => ?_)
        refine gp_aald_map (j := (i + t + 1)) X hR hl G.t2 rfl (by rw [e48, h2]; exact nI_1 _) (by have := hL.2.2.1; omega) (by decide) dX2_takeAt_49 (fun g49 h49 => ?_) (fun h49 => ?_)
        · skip
          have hl49 : gLive (sPL P r q f) 1 g49 0 := ⟨hL.2.2.2 _ (List.mem_of_getElem? (i := i + t + 1) (by rw [pPL_sPL, if_pos ⟨rfl, rfl⟩, hf, if_neg (by omega)] at h49; exact h49)), rfl⟩
          refine gp_astPL (v := (some g49)) (j := (i + t)) X G hR hl rfl (fun _ hh => by cases hh; exact hl49) h2 (by have := hL.2.2.1; omega) dX2_takeAt_50 (fun h hR => ?_)
          refine gp_iinc 0 X dX2_takeAt_51 rfl (by decide) (fun x51 e51 => ?_)
          refine GJ.leq (lv' := [(2, .int x51), (1, .int x), (0, .ref (ad 2 r q))]) rfl ?_
          refine g_goto 27 X dX2_takeAt_54 (by decide) ?_
          rw [pPL_sPL, if_pos ⟨rfl, rfl⟩, hf, if_neg (by omega)] at h49
          exact ih (t + 1) x51 (fun j' => if j' = i + t then some g49 else f j') h (by rw [← uPL_sPL]; exact hR) (by omega) (by rw [e51, h2]; exact nI_1 _) (fun j => by
            by_cases hj : j = i + t
            · subst hj; rw [if_pos rfl, if_pos ⟨by omega, by omega⟩, h49]
            · rw [if_neg hj, hf j]
              by_cases h8 : i ≤ j ∧ j < i + t
              · rw [if_pos h8, if_pos ⟨h8.1, by omega⟩]
              · rw [if_neg h8, if_neg (by omega)])
        · skip
          exact absurd h49 (by rw [pPL_sPL, if_pos ⟨rfl, rfl⟩, hf, if_neg (by omega), List.getElem?_eq_getElem (show i + t + 1 < l.length by omega)]; exact fun hh => by cases hh)
  refine g_iload_n X dX2_takeAt_0 rfl ?_
  refine g_if_lt 24 X dX2_takeAt_1 (by decide) (fun c1 => ?_) (fun c1 => ?_)
  · skip
    exact absurd c1 (by rw [hx]; exact nI_pos (by have := hL.2.2.1; omega))
  · skip
    refine g_aload_n X dX2_takeAt_4 rfl ?_
    refine gp_geti (j := 1) X hR hl cl_X2 lk_X2_17 rfl (by decide) rfl rfl dX2_takeAt_5 (fun x5 e5 => ?_)
    refine g_iconst (v := 1) X dX2_takeAt_8 (by decide) ?_
    refine g_icmp_lt 24 X dX2_takeAt_9 (by decide) (fun c9 => ?_) (fun c9 => ?_)
    · skip
      exact absurd c9 (by rw [e5, hL.1]; exact nI_nlt (a := l.length) (b := 1) (by omega) (by have := hL.2.2.1; omega))
    · skip
      refine g_aload_n X dX2_takeAt_12 rfl ?_
      refine gp_geti (j := 1) X hR hl cl_X2 lk_X2_17 rfl (by decide) rfl rfl dX2_takeAt_13 (fun x13 e13 => ?_)
      refine g_aload_n X dX2_takeAt_16 rfl ?_
      refine gp_get (j := 0) (v := .ref (ad 13 r q)) X hR hl cl_X2 lk_X2_11 rfl (by decide) rfl rfl dX2_takeAt_17 ?_
      refine gp_alen (v := 60) X hR hl G.t2 rfl rfl dX2_takeAt_20 ?_
      refine g_icmp_le 25 X dX2_takeAt_21 (by decide) (fun c21 => ?_) (fun c21 => ?_)
      · skip
        refine g_iload_n X dX2_takeAt_25 rfl ?_
        refine g_istore_n (lv' := [(2, .int x), (0, .ref (ad 2 r q)), (1, .int x)]) X dX2_takeAt_26 (by decide) rfl ?_
        refine GJ.pick [0, 2, 1] rfl ?_
        exact L (l.length - i - 1) 0 x (fun j => l[j]?) h (by rw [sPL_id hL.2.1]; exact hR) (by omega) hx (fun j => by rw [if_neg (by omega)])
      · skip
        exact absurd c21 (by rw [e13, hL.1]; exact nI_nlt (a := 60) (b := l.length) hL.2.2.1 (by decide))
set_option maxHeartbeats 4000000 in
set_option maxRecDepth 100000 in
theorem c_X2_takeOut {Z : gEnv} {ad : gAd} {P : gP} {h : gH} (G : gG Z) (hR : gRep Z ad P h) {r q : Nat} (hl : gLive P 2 r q) {l : List Nat} (hL : Ln P r q l) {o : Nat} (ho : gLive P 1 o 0) : gMet Z yX2_takeOut cX2_takeOut 3 ((Option.none : Option FieldType)) 2 0 0 [.ref (ad 2 r q), .ref (ad 1 o 0)] h (qM (fun h2 => ∃ P2, gRep Z ad P2 h2 ∧ P2 = sLn P r q (l.erase o))) (qN) := by
  refine g_enter (lv := [(0, .ref (ad 2 r q)), (1, .ref (ad 1 o 0))]) G.2 (by decide +kernel) (Nat.le_of_ble_eq_true rfl) rfl (fun Γ X Nt E RM => ?_)
  have L : ∀ (m : Nat) (k : Nat) (x2 : Int32) (hm : m + k = 60) (h2 : x2 = nI k) (hk : ∀ j, j < k → l[j]? ≠ some o), GJ Z Γ h 0 0 2 [(2, .int x2), (1, .ref (ad 1 o 0)), (0, .ref (ad 2 r q))] [] := by
    intro m
    induction m with
    | zero =>
      intro k x2 hm h2 hk
      refine g_iload_n X dX2_takeOut_2 rfl ?_
      refine g_aload_n X dX2_takeOut_3 rfl ?_
      refine gp_geti (j := 1) X hR hl cl_X2 lk_X2_17 rfl (by decide) rfl rfl dX2_takeOut_4 (fun x4 e4 => ?_)
      refine g_icmp_ge 41 X dX2_takeOut_7 (by decide) (fun c7 => ?_) (fun c7 => ?_)
      · skip
        refine g_return X E dX2_takeOut_41 (by decide) (by decide) ?_
        refine ⟨rfl, P, hR, ?_⟩
        rw [er_not (k := k) ?_ hk, sLn_id hL]
        rcases Nat.lt_or_ge k l.length with q9 | q9
        · exact absurd (by rw [h2, e4, hL.1]; exact nI_lt q9 (by have := hL.2.2.1; omega)) c7
        · exact q9
      · skip
        refine g_iload_n X dX2_takeOut_10 rfl ?_
        refine g_aload_n X dX2_takeOut_11 rfl ?_
        refine gp_get (j := 0) (v := .ref (ad 13 r q)) X hR hl cl_X2 lk_X2_11 rfl (by decide) rfl rfl dX2_takeOut_12 ?_
        refine gp_alen (v := 60) X hR hl G.t2 rfl rfl dX2_takeOut_15 ?_
        refine g_icmp_ge 41 X dX2_takeOut_16 (by decide) (fun c16 => ?_) (fun c16 => ?_)
        · skip
          refine absurd c7 ?_
          rw [h2, e4, hL.1]
          exact nI_nlt (by have := hL.2.2.1; omega) (by omega)
        · skip
          exact absurd c16 (by rw [h2]; exact nI_nlt (b := 60) (by omega) (by omega))
    | succ m ih =>
      intro k x2 hm h2 hk
      have hR0 := hR
      refine g_iload_n X dX2_takeOut_2 rfl ?_
      refine g_aload_n X dX2_takeOut_3 rfl ?_
      refine gp_geti (j := 1) X hR hl cl_X2 lk_X2_17 rfl (by decide) rfl rfl dX2_takeOut_4 (fun x4 e4 => ?_)
      refine g_icmp_ge 41 X dX2_takeOut_7 (by decide) (fun c7 => ?_) (fun c7 => ?_)
      · skip
        refine g_return X E dX2_takeOut_41 (by decide) (by decide) ?_
        refine ⟨rfl, P, hR, ?_⟩
        rw [er_not (k := k) ?_ hk, sLn_id hL]
        rcases Nat.lt_or_ge k l.length with q9 | q9
        · exact absurd (by rw [h2, e4, hL.1]; exact nI_lt q9 (by have := hL.2.2.1; omega)) c7
        · exact q9
      · skip
        refine g_iload_n X dX2_takeOut_10 rfl ?_
        refine g_aload_n X dX2_takeOut_11 rfl ?_
        refine gp_get (j := 0) (v := .ref (ad 13 r q)) X hR hl cl_X2 lk_X2_11 rfl (by decide) rfl rfl dX2_takeOut_12 ?_
        refine gp_alen (v := 60) X hR hl G.t2 rfl rfl dX2_takeOut_15 ?_
        refine g_icmp_ge 41 X dX2_takeOut_16 (by decide) (fun c16 => ?_) (fun c16 => ?_)
        · skip
          exact absurd (by rw [h2]; exact nI_lt (b := 60) (by omega) (by omega)) c16
        · skip
          refine g_aload_n X dX2_takeOut_19 rfl ?_
          refine gp_get (j := 0) (v := .ref (ad 13 r q)) X hR hl cl_X2 lk_X2_11 rfl (by decide) rfl rfl dX2_takeOut_20 ?_
          refine g_iload_n X dX2_takeOut_23 rfl ?_
          refine gp_aald_map (j := k) X hR hl G.t2 rfl h2 (by omega) (by decide) dX2_takeOut_24 (fun g24 h24 => ?_) (fun h24 => ?_)
          · skip
            have hl24 : gLive P 1 g24 0 := ⟨hL.mem h24, rfl⟩
            refine g_aload_n X dX2_takeOut_25 rfl ?_
            refine g_acmp_ne 35 X dX2_takeOut_26 (by decide) (fun c26 => ?_) (fun c26 => ?_)
            · skip
              refine gp_iinc 0 X dX2_takeOut_35 rfl (by decide) (fun x35 e35 => ?_)
              refine GJ.leq (lv' := [(2, .int x35), (1, .ref (ad 1 o 0)), (0, .ref (ad 2 r q))]) rfl ?_
              refine g_goto 2 X dX2_takeOut_38 (by decide) ?_
              exact ih (k + 1) x35 (by omega) (by rw [e35, h2]; exact nI_1 k) (fun j hj => by
                rcases Nat.lt_or_ge j k with q9 | q9
                · exact hk j q9
                · have hjk : j = k := by omega
                  subst hjk
                  rw [← hL.2.1, h24]
                  intro e9
                  cases e9
                  exact c26 rfl)
            · skip
              refine g_aload_n X dX2_takeOut_29 rfl ?_
              refine g_iload_n X dX2_takeOut_30 rfl ?_
              refine gp_V X RM lm_X2_25 (c_X2_takeAt G hR hl hL h2 (by rw [h2, e4, hL.1] at c7; exact (nI_ltI (by omega) (by have := hL.2.2.1; omega)).mp c7)) cl_X2 hR hl rfl rfl rfl (by decide) (by decide) (by decide) dX2_takeOut_31 (fun v h1 q => ?_) (fun _ _ q => q.elim)
              obtain ⟨rfl, P31, hR, e31⟩ := q
              refine GJ.seq (st' := []) rfl ?_
              refine g_return X E dX2_takeOut_34 (by decide) (by decide) ?_
              have hg : g24 = o := (hR0.2 _ _ _ _ _ _ hl24 ho c26).2.1
              refine ⟨rfl, _, hR, ?_⟩
              rw [e31, er_idx l k o (by rw [← hL.2.1, h24, hg]) hk]
          · skip
            exact absurd h24 (by rw [hL.at (by rw [h2, e4, hL.1] at c7; exact (nI_ltI (by omega) (by have := hL.2.2.1; omega)).mp c7)]; exact fun hh => by cases hh)
  refine g_iconst (v := 0) X dX2_takeOut_0 (by decide) ?_
  refine g_istore_n (lv' := [(2, .int 0), (0, .ref (ad 2 r q)), (1, .ref (ad 1 o 0))]) X dX2_takeOut_1 (by decide) rfl ?_
  refine GJ.pick [0, 2, 1] rfl ?_
  exact L 60 0 0 rfl rfl (fun j hj => absurd hj (Nat.not_lt_zero j))
theorem ct_step {l : List Nat} {k o g : Nat} (h : l[k]? = some g) : (l.take (k + 1)).count o = (l.take k).count o + if g = o then 1 else 0 := by
  rw [List.take_succ, h, List.count_append]
  simp only [Option.toList_some]
  by_cases hg : g = o <;> simp [hg]
set_option maxHeartbeats 4000000 in
set_option maxRecDepth 100000 in
theorem c_X2_countOf {Z : gEnv} {ad : gAd} {P : gP} {h : gH} (G : gG Z) (hR : gRep Z ad P h) {r q : Nat} (hl : gLive P 2 r q) {l : List Nat} (hL : Ln P r q l) {o : Nat} (ho : gLive P 1 o 0) : gMet Z yX2_countOf cX2_countOf 4 ((Option.some FieldType.int)) 1 0 0 [.ref (ad 2 r q), .ref (ad 1 o 0)] h (qI h (fun x => x = nI (l.count o))) (qN) := by
  refine g_enter (lv := [(0, .ref (ad 2 r q)), (1, .ref (ad 1 o 0))]) G.2 (by decide +kernel) (Nat.le_of_ble_eq_true rfl) rfl (fun Γ X Nt E RM => ?_)
  have L : ∀ (m : Nat) (k : Nat) (x2 x3 : Int32) (hm : m + k = 60) (h3 : x3 = nI k) (h2 : x2 = nI ((l.take k).count o)), GJ Z Γ h 0 0 4 [(3, .int x3), (2, .int x2), (1, .ref (ad 1 o 0)), (0, .ref (ad 2 r q))] [] := by
    intro m
    induction m with
    | zero =>
      intro k x2 x3 hm h3 h2
      refine g_iload_n X dX2_countOf_4 rfl ?_
      refine g_aload_n X dX2_countOf_5 rfl ?_
      refine gp_geti (j := 1) X hR hl cl_X2 lk_X2_17 rfl (by decide) rfl rfl dX2_countOf_6 (fun x6 e6 => ?_)
      refine g_icmp_ge 40 X dX2_countOf_9 (by decide) (fun c9 => ?_) (fun c9 => ?_)
      · skip
        refine g_iload_n X dX2_countOf_40 rfl ?_
        refine g_ireturn X E rfl dX2_countOf_41 (by decide) (by decide) ?_
        refine ⟨_, rfl, ?_, rfl⟩
        rw [h2, List.take_of_length_le ?_]
        rcases Nat.lt_or_ge k l.length with q9 | q9
        · exact absurd (by rw [h3, e6, hL.1]; exact nI_lt q9 (by have := hL.2.2.1; omega)) c9
        · exact q9
      · skip
        refine g_iload_n X dX2_countOf_12 rfl ?_
        refine g_aload_n X dX2_countOf_13 rfl ?_
        refine gp_get (j := 0) (v := .ref (ad 13 r q)) X hR hl cl_X2 lk_X2_11 rfl (by decide) rfl rfl dX2_countOf_14 ?_
        refine gp_alen (v := 60) X hR hl G.t2 rfl rfl dX2_countOf_17 ?_
        refine g_icmp_ge 40 X dX2_countOf_18 (by decide) (fun c18 => ?_) (fun c18 => ?_)
        · skip
          refine absurd c9 ?_
          rw [h3, e6, hL.1]
          exact nI_nlt (by have := hL.2.2.1; omega) (by omega)
        · skip
          exact absurd c18 (by rw [h3]; exact nI_nlt (b := 60) (by omega) (by omega))
    | succ m ih =>
      intro k x2 x3 hm h3 h2
      refine g_iload_n X dX2_countOf_4 rfl ?_
      refine g_aload_n X dX2_countOf_5 rfl ?_
      refine gp_geti (j := 1) X hR hl cl_X2 lk_X2_17 rfl (by decide) rfl rfl dX2_countOf_6 (fun x6 e6 => ?_)
      refine g_icmp_ge 40 X dX2_countOf_9 (by decide) (fun c9 => ?_) (fun c9 => ?_)
      · skip
        refine g_iload_n X dX2_countOf_40 rfl ?_
        refine g_ireturn X E rfl dX2_countOf_41 (by decide) (by decide) ?_
        refine ⟨_, rfl, ?_, rfl⟩
        rw [h2, List.take_of_length_le ?_]
        rcases Nat.lt_or_ge k l.length with q9 | q9
        · exact absurd (by rw [h3, e6, hL.1]; exact nI_lt q9 (by have := hL.2.2.1; omega)) c9
        · exact q9
      · skip
        refine g_iload_n X dX2_countOf_12 rfl ?_
        refine g_aload_n X dX2_countOf_13 rfl ?_
        refine gp_get (j := 0) (v := .ref (ad 13 r q)) X hR hl cl_X2 lk_X2_11 rfl (by decide) rfl rfl dX2_countOf_14 ?_
        refine gp_alen (v := 60) X hR hl G.t2 rfl rfl dX2_countOf_17 ?_
        refine g_icmp_ge 40 X dX2_countOf_18 (by decide) (fun c18 => ?_) (fun c18 => ?_)
        · skip
          exact absurd (by rw [h3]; exact nI_lt (b := 60) (by omega) (by omega)) c18
        · skip
          refine g_aload_n X dX2_countOf_21 rfl ?_
          refine gp_get (j := 0) (v := .ref (ad 13 r q)) X hR hl cl_X2 lk_X2_11 rfl (by decide) rfl rfl dX2_countOf_22 ?_
          refine g_iload_n X dX2_countOf_25 rfl ?_
          refine gp_aald_map (j := k) X hR hl G.t2 rfl h3 (by omega) (by decide) dX2_countOf_26 (fun g26 h26 => ?_) (fun h26 => ?_)
          · skip
            have hl26 : gLive P 1 g26 0 := ⟨hL.mem h26, rfl⟩
            refine g_aload_n X dX2_countOf_27 rfl ?_
            refine g_acmp_ne 34 X dX2_countOf_28 (by decide) (fun c28 => ?_) (fun c28 => ?_)
            · skip
              refine gp_iinc 0 X dX2_countOf_34 rfl (by decide) (fun x34 e34 => ?_)
              refine GJ.leq (lv' := [(3, .int x34), (2, .int x2), (1, .ref (ad 1 o 0)), (0, .ref (ad 2 r q))]) rfl ?_
              refine g_goto 4 X dX2_countOf_37 (by decide) ?_
              have hgo : g26 = o ↔ ad 1 g26 0 = ad 1 o 0 := ⟨fun e => by rw [e], fun e => (hR.2 _ _ _ _ _ _ hl26 ho e).2.1⟩
              have hl9 : l[k]? = some g26 := by rw [← hL.2.1]; exact h26
              exact ih (k + 1) x2 x34 (by omega) (by rw [e34, h3]; exact nI_1 k) (by rw [ct_step hl9, if_neg (fun e => c28 (hgo.mp e)), h2, Nat.add_zero])
            · skip
              refine gp_iinc 1 X dX2_countOf_31 rfl (by decide) (fun x31 e31 => ?_)
              refine GJ.leq (lv' := [(2, .int x31), (3, .int x3), (1, .ref (ad 1 o 0)), (0, .ref (ad 2 r q))]) rfl ?_
              refine gp_iinc 1 X dX2_countOf_34 rfl (by decide) (fun x34 e34 => ?_)
              refine GJ.leq (lv' := [(3, .int x34), (2, .int x31), (1, .ref (ad 1 o 0)), (0, .ref (ad 2 r q))]) rfl ?_
              refine g_goto 4 X dX2_countOf_37 (by decide) ?_
              have hgo : g26 = o ↔ ad 1 g26 0 = ad 1 o 0 := ⟨fun e => by rw [e], fun e => (hR.2 _ _ _ _ _ _ hl26 ho e).2.1⟩
              have hl9 : l[k]? = some g26 := by rw [← hL.2.1]; exact h26
              exact ih (k + 1) x31 x34 (by omega) (by rw [e34, h3]; exact nI_1 k) (by rw [ct_step hl9, if_pos (hgo.mpr c28), e31, h2]; exact nI_1 _)
          · skip
            exact absurd h26 (by rw [hL.at (by rw [h3, e6, hL.1] at c9; exact (nI_ltI (by omega) (by have := hL.2.2.1; omega)).mp c9)]; exact fun hh => by cases hh)
  refine g_iconst (v := 0) X dX2_countOf_0 (by decide) ?_
  refine g_istore_n (lv' := [(2, .int 0), (0, .ref (ad 2 r q)), (1, .ref (ad 1 o 0))]) X dX2_countOf_1 (by decide) rfl ?_
  refine g_iconst (v := 0) X dX2_countOf_2 (by decide) ?_
  refine g_istore_n (lv' := [(3, .int 0), (2, .int 0), (0, .ref (ad 2 r q)), (1, .ref (ad 1 o 0))]) X dX2_countOf_3 (by decide) rfl ?_
  refine GJ.pick [0, 1, 3, 2] rfl ?_
  exact L 60 0 0 0 rfl rfl (by simp; rfl)
set_option maxHeartbeats 4000000 in
set_option maxRecDepth 100000 in
theorem c_X2_takeOneOf {Z : gEnv} {ad : gAd} {P : gP} {h : gH} (G : gG Z) (hR : gRep Z ad P h) {r q : Nat} (hl : gLive P 2 r q) {l : List Nat} (hL : Ln P r q l) {o : Nat} (ho : gLive P 1 o 0) : gMet Z yX2_takeOneOf cX2_takeOneOf 4 ((Option.some (FieldType.object "Coasterland$Guest"))) 2 0 0 [.ref (ad 2 r q), .ref (ad 1 o 0)] h (qRM (fun w h2 => ∃ P2, gRep Z ad P2 h2 ∧ ((w = .null ∧ P2 = P) ∨ (∃ i g, l[i]? = some g ∧ w = .ref (ad 1 g 0) ∧ P2 = sLn P r q (l.eraseIdx i))))) (qN) := by
  refine g_enter (lv := [(0, .ref (ad 2 r q)), (1, .ref (ad 1 o 0))]) G.2 (by decide +kernel) (Nat.le_of_ble_eq_true rfl) rfl (fun Γ X Nt E RM => ?_)
  have L : ∀ (m : Nat) (k : Nat) (x2 : Int32) (hm : m + k = 60) (h2 : x2 = nI k), GJ Z Γ h 0 0 2 [(2, .int x2), (1, .ref (ad 1 o 0)), (0, .ref (ad 2 r q))] [] := by
    intro m
    induction m with
    | zero =>
      intro k x2 hm h2
      refine g_iload_n X dX2_takeOneOf_2 rfl ?_
      refine g_aload_n X dX2_takeOneOf_3 rfl ?_
      refine gp_geti (j := 1) X hR hl cl_X2 lk_X2_17 rfl (by decide) rfl rfl dX2_takeOneOf_4 (fun x4 e4 => ?_)
      refine g_icmp_ge 51 X dX2_takeOneOf_7 (by decide) (fun c7 => ?_) (fun c7 => ?_)
      · skip
        refine g_null X dX2_takeOneOf_51 ?_
        refine g_areturn X E (Or.inl rfl) dX2_takeOneOf_52 (by decide) (by decide) ?_
        exact ⟨_, rfl, P, hR, Or.inl ⟨rfl, rfl⟩⟩
      · skip
        refine g_iload_n X dX2_takeOneOf_10 rfl ?_
        refine g_aload_n X dX2_takeOneOf_11 rfl ?_
        refine gp_get (j := 0) (v := .ref (ad 13 r q)) X hR hl cl_X2 lk_X2_11 rfl (by decide) rfl rfl dX2_takeOneOf_12 ?_
        refine gp_alen (v := 60) X hR hl G.t2 rfl rfl dX2_takeOneOf_15 ?_
        refine g_icmp_ge 51 X dX2_takeOneOf_16 (by decide) (fun c16 => ?_) (fun c16 => ?_)
        · skip
          refine g_null X dX2_takeOneOf_51 ?_
          refine g_areturn X E (Or.inl rfl) dX2_takeOneOf_52 (by decide) (by decide) ?_
          exact ⟨_, rfl, P, hR, Or.inl ⟨rfl, rfl⟩⟩
        · skip
          exact absurd c16 (by rw [h2]; exact nI_nlt (b := 60) (by omega) (by omega))
    | succ m ih =>
      intro k x2 hm h2
      refine g_iload_n X dX2_takeOneOf_2 rfl ?_
      refine g_aload_n X dX2_takeOneOf_3 rfl ?_
      refine gp_geti (j := 1) X hR hl cl_X2 lk_X2_17 rfl (by decide) rfl rfl dX2_takeOneOf_4 (fun x4 e4 => ?_)
      refine g_icmp_ge 51 X dX2_takeOneOf_7 (by decide) (fun c7 => ?_) (fun c7 => ?_)
      · skip
        refine g_null X dX2_takeOneOf_51 ?_
        refine g_areturn X E (Or.inl rfl) dX2_takeOneOf_52 (by decide) (by decide) ?_
        exact ⟨_, rfl, P, hR, Or.inl ⟨rfl, rfl⟩⟩
      · skip
        refine g_iload_n X dX2_takeOneOf_10 rfl ?_
        refine g_aload_n X dX2_takeOneOf_11 rfl ?_
        refine gp_get (j := 0) (v := .ref (ad 13 r q)) X hR hl cl_X2 lk_X2_11 rfl (by decide) rfl rfl dX2_takeOneOf_12 ?_
        refine gp_alen (v := 60) X hR hl G.t2 rfl rfl dX2_takeOneOf_15 ?_
        refine g_icmp_ge 51 X dX2_takeOneOf_16 (by decide) (fun c16 => ?_) (fun c16 => ?_)
        · skip
          refine g_null X dX2_takeOneOf_51 ?_
          refine g_areturn X E (Or.inl rfl) dX2_takeOneOf_52 (by decide) (by decide) ?_
          exact ⟨_, rfl, P, hR, Or.inl ⟨rfl, rfl⟩⟩
        · skip
          refine g_aload_n X dX2_takeOneOf_19 rfl ?_
          refine gp_get (j := 0) (v := .ref (ad 13 r q)) X hR hl cl_X2 lk_X2_11 rfl (by decide) rfl rfl dX2_takeOneOf_20 ?_
          refine g_iload_n X dX2_takeOneOf_23 rfl ?_
          refine gp_aald_map (j := k) X hR hl G.t2 rfl h2 (by omega) (by decide) dX2_takeOneOf_24 (fun g24 h24 => ?_) (fun h24 => ?_)
          · skip
            have hl24 : gLive P 1 g24 0 := ⟨hL.mem h24, rfl⟩
            refine g_astore_n (lv' := [(3, .ref (ad 1 g24 0)), (2, .int x2), (1, .ref (ad 1 o 0)), (0, .ref (ad 2 r q))]) X dX2_takeOneOf_25 (by decide) rfl ?_
            refine g_aload_n X dX2_takeOneOf_26 rfl ?_
            refine g_ifnull X dX2_takeOneOf_27 ?_
            refine g_aload_n X dX2_takeOneOf_30 rfl ?_
            refine g_aload_n X dX2_takeOneOf_31 rfl ?_
            refine gp_V X RM lm_X2_21 (c_X1_comesWith G hR hl24 ho) cl_X1 hR hl24 rfl rfl rfl (by decide) (by decide) (by decide) dX2_takeOneOf_32 (fun v h1 q => ?_) (fun _ _ q => q.elim)
            obtain ⟨x32, rfl, e32, rfl⟩ := q
            refine GJ.seq (st' := [.int x32]) rfl ?_
            refine g_if_eq 45 X dX2_takeOneOf_35 (by decide) (fun c35 => ?_) (fun c35 => ?_)
            · skip
              refine gp_iinc 1 X dX2_takeOneOf_45 rfl (by decide) (fun x45 e45 => ?_)
              refine GJ.leq (lv' := [(2, .int x45), (3, .ref (ad 1 g24 0)), (1, .ref (ad 1 o 0)), (0, .ref (ad 2 r q))]) rfl ?_
              refine g_goto 2 X dX2_takeOneOf_48 (by decide) ?_
              refine GJ.pick [0, 2, 3] rfl ?_
              exact ih (k + 1) x45 (by omega) (by rw [e45, h2]; exact nI_1 k)
            · skip
              refine g_aload_n X dX2_takeOneOf_38 rfl ?_
              refine g_iload_n X dX2_takeOneOf_39 rfl ?_
              refine gp_V X RM lm_X2_25 (c_X2_takeAt G hR hl hL h2 (by rw [h2, e4, hL.1] at c7; exact (nI_ltI (by omega) (by have := hL.2.2.1; omega)).mp c7)) cl_X2 hR hl rfl rfl rfl (by decide) (by decide) (by decide) dX2_takeOneOf_40 (fun v h1 q => ?_) (fun _ _ q => q.elim)
              obtain ⟨rfl, P40, hR, e40⟩ := q
              refine GJ.seq (st' := []) rfl ?_
              refine g_aload_n X dX2_takeOneOf_43 rfl ?_
              refine g_areturn X E (Or.inr ⟨_, rfl⟩) dX2_takeOneOf_44 (by decide) (by decide) ?_
              exact ⟨_, rfl, _, hR, Or.inr ⟨k, g24, by rw [← hL.2.1]; exact h24, rfl, e40⟩⟩
          · skip
            refine g_astore_nN (lv' := [(3, .null), (2, .int x2), (1, .ref (ad 1 o 0)), (0, .ref (ad 2 r q))]) X dX2_takeOneOf_25 (by decide) rfl ?_
            refine g_aload_nN X dX2_takeOneOf_26 rfl ?_
            refine g_ifnullN 45 X dX2_takeOneOf_27 (by decide) ?_
            refine gp_iinc 1 X dX2_takeOneOf_45 rfl (by decide) (fun x45 e45 => ?_)
            refine GJ.leq (lv' := [(2, .int x45), (3, .null), (1, .ref (ad 1 o 0)), (0, .ref (ad 2 r q))]) rfl ?_
            refine g_goto 2 X dX2_takeOneOf_48 (by decide) ?_
            refine GJ.pick [0, 2, 3] rfl ?_
            exact ih (k + 1) x45 (by omega) (by rw [e45, h2]; exact nI_1 k)
  refine g_iconst (v := 0) X dX2_takeOneOf_0 (by decide) ?_
  refine g_istore_n (lv' := [(2, .int 0), (0, .ref (ad 2 r q)), (1, .ref (ad 1 o 0))]) X dX2_takeOneOf_1 (by decide) rfl ?_
  refine GJ.pick [0, 2, 1] rfl ?_
  exact L 60 0 0 rfl rfl
set_option maxHeartbeats 4000000 in
set_option maxRecDepth 100000 in
theorem c_X2_first {Z : gEnv} {ad : gAd} {P : gP} {h : gH} (G : gG Z) (hR : gRep Z ad P h) {r q : Nat} (hl : gLive P 2 r q) {l : List Nat} (hL : Ln P r q l) : gMet Z yX2_first cX2_first 1 ((Option.some (FieldType.object "Coasterland$Guest"))) 1 0 0 [.ref (ad 2 r q)] h (qR h (fun w => (l = [] ∧ w = .null) ∨ (∃ g t, l = g :: t ∧ w = .ref (ad 1 g 0)))) (qN) := by
  refine g_enter (lv := [(0, .ref (ad 2 r q))]) G.2 (by decide +kernel) (Nat.le_of_ble_eq_true rfl) rfl (fun Γ X Nt E RM => ?_)
  refine g_aload_n X dX2_first_0 rfl ?_
  refine gp_get (j := 0) (v := .ref (ad 13 r q)) X hR hl cl_X2 lk_X2_11 rfl (by decide) rfl rfl dX2_first_1 ?_
  refine g_iconst (v := 0) X dX2_first_4 (by decide) ?_
  refine gp_aald_map (j := 0) X hR hl G.t2 rfl rfl (by decide) (by decide) dX2_first_5 (fun g5 h5 => ?_) (fun h5 => ?_)
  · skip
    refine g_areturn X E (Or.inr ⟨_, rfl⟩) dX2_first_6 (by decide) (by decide) ?_
    rw [hL.2.1] at h5
    cases l with
    | nil => simp at h5
    | cons a t =>
      simp at h5
      subst h5
      exact ⟨_, rfl, Or.inr ⟨a, t, rfl, rfl⟩, rfl⟩
  · skip
    refine g_areturn X E (Or.inl rfl) dX2_first_6 (by decide) (by decide) ?_
    rw [hL.2.1] at h5
    cases l with
    | nil => exact ⟨_, rfl, Or.inl ⟨rfl, rfl⟩, rfl⟩
    | cons a t => simp at h5
theorem ap_end {l : List Nat} {g : Nat} {F : Nat → Option Nat} (hF : ∀ j, F j = l[j]?) : (fun j => if j = l.length then some g else F j) = fun j => (l ++ [g])[j]? := by
  funext j
  by_cases h1 : j = l.length
  · subst h1; simp
  · rw [if_neg h1, hF j]
    rcases Nat.lt_or_ge j l.length with h2 | h2
    · rw [List.getElem?_append_left h2]
    · rw [List.getElem?_append_right h2, List.getElem?_eq_none h2, List.getElem?_eq_none (by simp; omega)]
set_option maxHeartbeats 4000000 in
set_option maxRecDepth 100000 in
theorem c_X2_append {Z : gEnv} {ad : gAd} {P : gP} {h : gH} (G : gG Z) (hR : gRep Z ad P h) {r q : Nat} (hl : gLive P 2 r q) {l : List Nat} (hL : Ln P r q l) (hn : l.length < 60) {o : Nat} (ho : gLive P 1 o 0) : gMet Z yX2_append cX2_append 2 ((Option.none : Option FieldType)) 1 0 0 [.ref (ad 2 r q), .ref (ad 1 o 0)] h (qM (fun h2 => ∃ P2, gRep Z ad P2 h2 ∧ P2 = sLn P r q (l ++ [o]))) (qN) := by
  refine g_enter (lv := [(0, .ref (ad 2 r q)), (1, .ref (ad 1 o 0))]) G.2 (by decide +kernel) (Nat.le_of_ble_eq_true rfl) rfl (fun Γ X Nt E RM => ?_)
  refine g_aload_n X dX2_append_0 rfl ?_
  refine gp_geti (j := 1) X hR hl cl_X2 lk_X2_17 rfl (by decide) rfl rfl dX2_append_1 (fun x1 e1 => ?_)
  refine g_if_lt 39 X dX2_append_4 (by decide) (fun c4 => ?_) (fun c4 => ?_)
  · skip
    exact absurd c4 (by rw [e1, hL.1]; exact nI_pos (by omega))
  · skip
    refine g_aload_n X dX2_append_7 rfl ?_
    refine gp_geti (j := 1) X hR hl cl_X2 lk_X2_17 rfl (by decide) rfl rfl dX2_append_8 (fun x8 e8 => ?_)
    refine g_aload_n X dX2_append_11 rfl ?_
    refine gp_get (j := 0) (v := .ref (ad 13 r q)) X hR hl cl_X2 lk_X2_11 rfl (by decide) rfl rfl dX2_append_12 ?_
    refine gp_alen (v := 60) X hR hl G.t2 rfl rfl dX2_append_15 ?_
    refine g_icmp_ge 39 X dX2_append_16 (by decide) (fun c16 => ?_) (fun c16 => ?_)
    · skip
      exact absurd (by rw [e8, hL.1]; exact nI_lt (b := 60) hn (by decide)) c16
    · skip
      refine g_aload_n X dX2_append_19 rfl ?_
      refine gp_get (j := 0) (v := .ref (ad 13 r q)) X hR hl cl_X2 lk_X2_11 rfl (by decide) rfl rfl dX2_append_20 ?_
      refine g_aload_n X dX2_append_23 rfl ?_
      refine gp_geti (j := 1) X hR hl cl_X2 lk_X2_17 rfl (by decide) rfl rfl dX2_append_24 (fun x24 e24 => ?_)
      refine g_aload_n X dX2_append_27 rfl ?_
      refine gp_astPL (v := (some o)) (j := l.length) X G hR hl rfl (fun _ hh => by cases hh; exact ho) (e24.trans hL.1) hn dX2_append_28 (fun h hR => ?_)
      refine g_aload_n X dX2_append_29 rfl ?_
      refine g_dup X dX2_append_30 rfl ?_
      refine gp_geti (j := 1) X hR hl cl_X2 lk_X2_17 rfl (by decide) rfl rfl dX2_append_31 (fun x31 e31 => ?_)
      refine g_iconst (v := 1) X dX2_append_34 (by decide) ?_
      refine g_iadd X dX2_append_35 (fun x35 e35 => ?_)
      refine gp_puti (j := 1) X hR hl cl_X2 lk_X2_17 rfl (by decide) rfl (by decide) rfl rfl rfl dX2_append_36 (fun h hR => ?_)
      refine g_return X E dX2_append_39 (by decide) (by decide) ?_
      refine ⟨rfl, _, hR, ?_⟩
      have hx : x35 = nI (l ++ [o]).length := by rw [e35, e31, pI_uPL, hL.1, List.length_append]; exact nI_1 _
      rw [uPL_self, uI_sPL, ap_end hL.2.1, hx]
      rfl
end GLINE
