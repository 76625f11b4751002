/-! rows of GJ over the state of the park -/
section GPROWS
variable {Z : gEnv} {Γ : gCtx} {cc : ByteArray} {own : String} {nL : Nat} {ret : Option FieldType} {h : gH} {k n pc : Nat} {lv lv' : List (Nat × Value)} {st st' : List Value} {ad : gAd} {P : gP}
theorem GJ.leq (hs : lv = lv') (kk : GJ Z Γ h k n pc lv' st) : GJ Z Γ h k n pc lv st := by rw [hs]; exact kk
theorem GJ.seq (hs : st = st') (kk : GJ Z Γ h k n pc lv st') : GJ Z Γ h k n pc lv st := by rw [hs]; exact kk
theorem GX.leq {E : String} (hs : lv = lv') (kk : GX Z Γ h k n pc lv' st E) : GX Z Γ h k n pc lv st E := by rw [hs]; exact kk
theorem gp_iinc {i : Nat} {c : Int} {x : Int32} (j : Nat) (X : gOK Z Γ cc own nL ret) (d : decode cc pc = .ok (.iinc i c, 3)) (hj : lv[j]? = some (i, .int x)) (hn : i < nL) (kk : ∀ v : Int32, v = x + Int32.ofInt c → GJ Z Γ h k n (pc + 3) (gSet1 lv i (.int v)) st) : GJ Z Γ h k n pc lv st := g_iinc j X d hj hn (fun v e lv2 h2 => by rw [← h2]; exact kk v e)
theorem gp_get {kd r i ci j N index : Nat} {C : String} {T : u_T} {ty : Nat → FieldType} {fs : List Value} {v : Value} (X : gOK Z Γ cc own nL ret) (hR : gRep Z ad P h) (hl : gLive P kd r i) (K : gCls ci C T ty N) (hlk : Cond.fieldLink own index C (T j).2.1 (T j).2.2.1 ∈ gT) (hT : (T j).1 = C) (hj : j < N)
    (hc : gCell Z.2.2.2.1 ad P kd r i = .inr (ci, fs)) (hv : fs[j]? = some v) (d : decode cc pc = .ok (.getfield index, 3)) (kk : GJ Z Γ h k n (pc + 3) lv (v :: st)) : GJ Z Γ h k n pc lv (.ref (ad kd r i) :: st) := g_get X K hlk hT hj (by rw [hR.1 _ _ _ hl, hc]) hv d kk
theorem gp_geti {kd r i ci j N index : Nat} {C : String} {T : u_T} {ty : Nat → FieldType} {fs : List Value} {v : Int32} (X : gOK Z Γ cc own nL ret) (hR : gRep Z ad P h) (hl : gLive P kd r i) (K : gCls ci C T ty N) (hlk : Cond.fieldLink own index C (T j).2.1 (T j).2.2.1 ∈ gT) (hT : (T j).1 = C) (hj : j < N)
    (hc : gCell Z.2.2.2.1 ad P kd r i = .inr (ci, fs)) (hv : fs[j]? = some (.int v)) (d : decode cc pc = .ok (.getfield index, 3)) (kk : ∀ x : Int32, x = v → GJ Z Γ h k n (pc + 3) lv (.int x :: st)) : GJ Z Γ h k n pc lv (.ref (ad kd r i) :: st) := gp_get X hR hl K hlk hT hj hc hv d (kk v rfl)
theorem gp_getl {kd r i ci j N index : Nat} {C : String} {T : u_T} {ty : Nat → FieldType} {fs : List Value} {v : Int64} (X : gOK Z Γ cc own nL ret) (hR : gRep Z ad P h) (hl : gLive P kd r i) (K : gCls ci C T ty N) (hlk : Cond.fieldLink own index C (T j).2.1 (T j).2.2.1 ∈ gT) (hT : (T j).1 = C) (hj : j < N)
    (hc : gCell Z.2.2.2.1 ad P kd r i = .inr (ci, fs)) (hv : fs[j]? = some (.long v)) (d : decode cc pc = .ok (.getfield index, 3)) (kk : ∀ x : Int64, x = v → GJ Z Γ h k n (pc + 3) lv (.long x :: st)) : GJ Z Γ h k n pc lv (.ref (ad kd r i) :: st) := gp_get X hR hl K hlk hT hj hc hv d (kk v rfl)
theorem gp_puti {kd r i ci j N index : Nat} {C : String} {T : u_T} {ty : Nat → FieldType} {fs : List Value} {v : Int32} (X : gOK Z Γ cc own nL ret) (hR : gRep Z ad P h) (hl : gLive P kd r i) (K : gCls ci C T ty N) (hlk : Cond.fieldLink own index C (T j).2.1 (T j).2.2.1 ∈ gT) (hT : (T j).1 = C) (hj : j < N)
    (hc : gCell Z.2.2.2.1 ad P kd r i = .inr (ci, fs)) (hs : gIntSlot kd j = true) (hfin : (T j).2.2.2 = false) (hn : narrow (ty j) (.int v) = .int v) (hfit : fits (ty j) (.int v) = true) (d : decode cc pc = .ok (.putfield index, 3))
    (kk : ∀ h' : gH, gRep Z ad (uI P kd r i j v) h' → GJ Z Γ h' k n (pc + 3) lv st) : GJ Z Γ h k n pc lv (.int v :: .ref (ad kd r i) :: st) :=
  g_put X K hlk hT hj (by rw [hR.1 _ _ _ hl, hc]) hfin hn hfit (gCell_uI_eq (v := v) hs hc).2 d (kk _ (hR.putI hl hs hc))
theorem gp_putj {j index : Nat} {v : Int64} (X : gOK Z Γ cc own nL ret) (hR : gRep Z ad P h) (hj : 10 ≤ j ∧ j < 13) (hlk : Cond.fieldLink own index RX6 (TX6 j).2.1 (TX6 j).2.2.1 ∈ gT) (hT : (TX6 j).1 = RX6) (hfin : (TX6 j).2.2.2 = false) (hty : tyX6 j = .long) (d : decode cc pc = .ok (.putfield index, 3))
    (kk : ∀ h' : gH, gRep Z ad (uJ P j v) h' → GJ Z Γ h' k n (pc + 3) lv st) : GJ Z Γ h k n pc lv (.long v :: .ref (ad 6 0 0) :: st) :=
  g_put X cl_X6 hlk hT hj.2 (by rw [hR.1 6 0 0 ⟨rfl, rfl⟩]; rfl) hfin (by rw [hty]; rfl) (by rw [hty]; rfl) (hR.putJ (v := v) hj rfl).2 d (kk _ (hR.putJ hj rfl).1)
theorem gp_putgl {g index : Nat} {v : Option (Nat × Nat)} {w : Value} (X : gOK Z Γ cc own nL ret) (hR : gRep Z ad P h) (hl : gLive P 1 g 0) (hw : w = va_rf (v.map (fun q => ad 2 q.1 q.2))) (hlk : Cond.fieldLink own index RX1 (TX1 9).2.1 (TX1 9).2.2.1 ∈ gT) (d : decode cc pc = .ok (.putfield index, 3))
    (kk : ∀ h' : gH, gRep Z ad (uGL P g v) h' → GJ Z Γ h' k n (pc + 3) lv st) : GJ Z Γ h k n pc lv (w :: .ref (ad 1 g 0) :: st) := by
  subst hw
  exact g_put X cl_X1 hlk rfl (by decide) (by rw [hR.1 1 g 0 hl]; rfl) rfl (by cases v <;> rfl) (by cases v <;> rfl) (hR.putGL (v := v) hl rfl).2 d (kk _ (hR.putGL hl rfl).1)
/-- an array's length -/
theorem gp_alen {kd r i t : Nat} {ty : FieldType} {x : vp_A} {v : Int32} (X : gOK Z Γ cc own nL ret) (hR : gRep Z ad P h) (hl : gLive P kd r i) (ht : gTy Z t ty) (hc : gCell Z.2.2.2.1 ad P kd r i = .inl (Z.2.2.2.1 t, x)) (hv : Int32.ofNat x.1 = v) (d : decode cc pc = .ok (.arraylength, 1)) (kk : GJ Z Γ h k n (pc + 1) lv (.int v :: st)) : GJ Z Γ h k n pc lv (.ref (ad kd r i) :: st) := g_alen X ht (by rw [hR.1 _ _ _ hl, hc]) hv d kk
/-- a reference out of an array: there, or null -/
theorem gp_aald {kd r i t m j : Nat} {C : String} {f : Nat → Option Nat} {x : Int32} (X : gOK Z Γ cc own nL ret) (hR : gRep Z ad P h) (hl : gLive P kd r i) (ht : gTy Z t (.object C)) (hc : gCell Z.2.2.2.1 ad P kd r i = .inl (Z.2.2.2.1 t, m, gRow f)) (hx : x = nI j) (hj : j < m) (hm : m < 2 ^ 31) (d : decode cc pc = .ok (.aaload, 1))
    (ks : ∀ a, f j = some a → GJ Z Γ h k n (pc + 1) lv (.ref a :: st)) (kn : f j = none → GJ Z Γ h k n (pc + 1) lv (.null :: st)) : GJ Z Γ h k n pc lv (.int x :: .ref (ad kd r i) :: st) := by
  subst hx
  refine g_aald X ht (by rw [hR.1 _ _ _ hl, hc]) (vp_in_nI hj hm) d ?_
  rw [nI_clamp (Nat.lt_trans hj hm)]
  cases hf : f j with
  | none => exact kn hf
  | some a => exact ks a hf
theorem gp_aald_if {kd r i t m j b : Nat} {C : String} {f : Nat → Nat} {x : Int32} (X : gOK Z Γ cc own nL ret) (hR : gRep Z ad P h) (hl : gLive P kd r i) (ht : gTy Z t (.object C)) (hc : gCell Z.2.2.2.1 ad P kd r i = .inl (Z.2.2.2.1 t, m, gRow (fun j => if j < b then some (f j) else none))) (hx : x = nI j) (hj : j < m) (hm : m < 2 ^ 31) (d : decode cc pc = .ok (.aaload, 1))
    (ks : j < b → GJ Z Γ h k n (pc + 1) lv (.ref (f j) :: st)) (kn : ¬ j < b → GJ Z Γ h k n (pc + 1) lv (.null :: st)) : GJ Z Γ h k n pc lv (.int x :: .ref (ad kd r i) :: st) := by
  refine gp_aald X hR hl ht hc hx hj hm d (fun a ha => ?_) (fun hn => ?_)
  · by_cases hb : j < b
    · rw [if_pos hb] at ha
      cases ha
      exact ks hb
    · rw [if_neg hb] at ha
      cases ha
  · by_cases hb : j < b
    · rw [if_pos hb] at hn
      cases hn
    · exact kn hb
theorem gp_aald_map {kd r i t m j : Nat} {C : String} {f : Nat → Option Nat} {x : Int32} (X : gOK Z Γ cc own nL ret) (hR : gRep Z ad P h) (hl : gLive P kd r i) (ht : gTy Z t (.object C)) (hc : gCell Z.2.2.2.1 ad P kd r i = .inl (Z.2.2.2.1 t, m, gRow (fun j => (f j).map (fun g => ad 1 g 0)))) (hx : x = nI j) (hj : j < m) (hm : m < 2 ^ 31) (d : decode cc pc = .ok (.aaload, 1))
    (ks : ∀ g, f j = some g → GJ Z Γ h k n (pc + 1) lv (.ref (ad 1 g 0) :: st)) (kn : f j = none → GJ Z Γ h k n (pc + 1) lv (.null :: st)) : GJ Z Γ h k n pc lv (.int x :: .ref (ad kd r i) :: st) := by
  refine gp_aald X hR hl ht hc hx hj hm d (fun a ha => ?_) (fun hn => ?_)
  · cases hf : f j with
    | none => rw [hf] at ha; cases ha
    | some g => rw [hf] at ha; cases ha; exact ks g hf
  · cases hf : f j with
    | none => exact kn hf
    | some g => rw [hf] at hn; cases hn
theorem gp_iald {kd r i t m j : Nat} {f : Nat → Int32} {x : Int32} (X : gOK Z Γ cc own nL ret) (hR : gRep Z ad P h) (hl : gLive P kd r i) (ht : gTy Z t .int) (hc : gCell Z.2.2.2.1 ad P kd r i = .inl (Z.2.2.2.1 t, m, .inl f)) (hx : x = nI j) (hj : j < m) (hm : m < 2 ^ 31) (d : decode cc pc = .ok (.iaload, 1))
    (kk : ∀ z : Int32, z = f j → GJ Z Γ h k n (pc + 1) lv (.int z :: st)) : GJ Z Γ h k n pc lv (.int x :: .ref (ad kd r i) :: st) := by
  subst hx
  refine g_iald X ht (by rw [hR.1 _ _ _ hl, hc]) (vp_in_nI hj hm) d ?_
  rw [nI_clamp (Nat.lt_trans hj hm)]
  exact kk
theorem gp_astPL {r i j : Nat} {v : Option Nat} {w : Value} {x : Int32} (X : gOK Z Γ cc own nL ret) (G : gG Z) (hR : gRep Z ad P h) (hl : gLive P 13 r i) (hw : w = va_rf (v.map (fun g => ad 1 g 0))) (hg : ∀ g, v = some g → gLive P 1 g 0) (hx : x = nI j) (hj : j < 60) (d : decode cc pc = .ok (.aastore, 1))
    (kk : ∀ h' : gH, gRep Z ad (uPL P r i j v) h' → GJ Z Γ h' k n (pc + 1) lv st) : GJ Z Γ h k n pc lv (w :: .int x :: .ref (ad 13 r i) :: st) := by
  subst hw
  subst hx
  have ha := hR.1 13 r i hl
  cases v with
  | none =>
    refine g_aastN X G.t2 ha (vp_in_nI hj (by decide)) d ?_
    rw [nI_clamp (Nat.lt_trans hj (by decide))]
    exact kk _ (hR.astPL (v := none) hl)
  | some g =>
    refine g_aast X cl_X1 G.t2 ha (hR.1 1 g 0 (hg g rfl)) (vp_in_nI hj (by decide)) d ?_
    rw [nI_clamp (Nat.lt_trans hj (by decide))]
    exact kk _ (hR.astPL (v := some g) hl)
theorem gp_astRD {r i j : Nat} {v : Option Nat} {w : Value} {x : Int32} (X : gOK Z Γ cc own nL ret) (G : gG Z) (hR : gRep Z ad P h) (hl : gLive P 12 r i) (hw : w = va_rf (v.map (fun g => ad 1 g 0))) (hg : ∀ g, v = some g → gLive P 1 g 0) (hx : x = nI j) (hj : j < 8) (d : decode cc pc = .ok (.aastore, 1))
    (kk : ∀ h' : gH, gRep Z ad (uRD P r i j v) h' → GJ Z Γ h' k n (pc + 1) lv st) : GJ Z Γ h k n pc lv (w :: .int x :: .ref (ad 12 r i) :: st) := by
  subst hw
  subst hx
  have ha := hR.1 12 r i hl
  cases v with
  | none =>
    refine g_aastN X G.t2 ha (vp_in_nI hj (by decide)) d ?_
    rw [nI_clamp (Nat.lt_trans hj (by decide))]
    exact kk _ (hR.astRD (v := none) hl)
  | some g =>
    refine g_aast X cl_X1 G.t2 ha (hR.1 1 g 0 (hg g rfl)) (vp_in_nI hj (by decide)) d ?_
    rw [nI_clamp (Nat.lt_trans hj (by decide))]
    exact kk _ (hR.astRD (v := some g) hl)
theorem gp_astC {j : Nat} {v x : Int32} (X : gOK Z Γ cc own nL ret) (G : gG Z) (hR : gRep Z ad P h) (hx : x = nI j) (hj : j < 8) (d : decode cc pc = .ok (.iastore, 1))
    (kk : ∀ h' : gH, gRep Z ad (uI P 8 0 0 j v) h' → GJ Z Γ h' k n (pc + 1) lv st) : GJ Z Γ h k n pc lv (.int v :: .int x :: .ref (ad 8 0 0) :: st) := by
  subst hx
  refine g_iast X G.t1 (hR.1 8 0 0 ⟨rfl, rfl⟩) (vp_in_nI hj (by decide)) d ?_
  rw [nI_clamp (Nat.lt_trans hj (by decide))]
  exact kk _ hR.astC
theorem gp_astX {j : Nat} {v x : Int32} (X : gOK Z Γ cc own nL ret) (G : gG Z) (hR : gRep Z ad P h) (hl : gLive P 14 0 0) (hx : x = nI j) (hj : j < 12) (d : decode cc pc = .ok (.iastore, 1))
    (kk : ∀ h' : gH, gRep Z ad (uI P 14 0 0 j v) h' → GJ Z Γ h' k n (pc + 1) lv st) : GJ Z Γ h k n pc lv (.int v :: .int x :: .ref (ad 14 0 0) :: st) := by
  subst hx
  refine g_iast X G.t1 (hR.1 14 0 0 hl) (vp_in_nI hj (by decide)) d ?_
  rw [nI_clamp (Nat.lt_trans hj (by decide))]
  exact kk _ (hR.astX hl)
/-! forms of contracts: a number, the heap as it was; nothing, another heap; a number and another heap; a reference; what is thrown, the heap as it was -/
def qI (h : gH) (F : Int32 → Prop) : Option Value → gH → Prop := fun v h' => ∃ x : Int32, v = some (.int x) ∧ F x ∧ h' = h
def qL (h : gH) (F : Int64 → Prop) : Option Value → gH → Prop := fun v h' => ∃ x : Int64, v = some (.long x) ∧ F x ∧ h' = h
def qM (F : gH → Prop) : Option Value → gH → Prop := fun v h' => v = none ∧ F h'
def qIM (F : Int32 → gH → Prop) : Option Value → gH → Prop := fun v h' => ∃ x : Int32, v = some (.int x) ∧ F x h'
def qR (h : gH) (F : Value → Prop) : Option Value → gH → Prop := fun v h' => ∃ w : Value, v = some w ∧ F w ∧ h' = h
def qRM (F : Value → gH → Prop) : Option Value → gH → Prop := fun v h' => ∃ w : Value, v = some w ∧ F w h'
def qN : String → gH → Prop := fun _ _ => False
def qT (h : gH) (F : String → Prop) : String → gH → Prop := fun E h' => F E ∧ h' = h
theorem gp_V {idx na n' d mc ms kd r i ci N D M S : Nat} {C : String} {T : u_T} {ty : Nat → FieldType} {fs : List Value} {y : MethodName} {bytes : ByteArray} {ret' : Option FieldType} {As rest : List Value} {Q : Option Value → gH → Prop} {QX : String → gH → Prop}
    (X : gOK Z Γ cc own nL ret) (RM : Γ.2.2.1 = gRm D M S) (L : gLV own idx C y bytes n' ret' na) (hM : gMet Z y bytes n' ret' d mc ms (.ref (ad kd r i) :: As) h Q QX) (K : gCls ci C T ty N) (hR : gRep Z ad P h) (hl : gLive P kd r i) (hc : gCell Z.2.2.2.1 ad P kd r i = .inr (ci, fs)) (hna : As.length = na) (hst : st = As.reverse ++ .ref (ad kd r i) :: rest) (hcat : (rest.map fun v => v.category).sum ≤ 8)
    (hD : d + 1 ≤ D ∧ 8 + (n' + 11) + 50 * d ≤ 50 * D) (hf : k + mc ≤ M ∧ n + ms ≤ S) (dd : decode cc pc = .ok (.invokevirtual idx, 3))
    (kk : ∀ (v : Option Value) (h' : gH), Q v h' → GJ Z Γ h' (k + mc) (n + ms) (pc + 3) lv (v.toList ++ rest)) (kx : ∀ (E : String) (h' : gH), QX E h' → GX Z Γ h' (k + mc) (n + ms) pc lv rest E) : GJ Z Γ h k n pc lv st :=
  g_callV X L hM K (by rw [hR.1 _ _ _ hl, hc]) hna hst hcat (by rw [RM]; exact hD) (by rw [RM]; exact hf) dd kk kx
theorem gp_S {idx na n' d mc ms D M S : Nat} {y : MethodName} {bytes : ByteArray} {ret' : Option FieldType} {As rest : List Value} {Q : Option Value → gH → Prop} {QX : String → gH → Prop}
    (X : gOK Z Γ cc own nL ret) (RM : Γ.2.2.1 = gRm D M S) (L : gLS own idx y bytes n' ret' na) (hM : gMet Z y bytes n' ret' d mc ms As h Q QX) (hna : As.length = na) (hst : st = As.reverse ++ rest) (hcat : (rest.map fun v => v.category).sum ≤ 8)
    (hD : d + 1 ≤ D ∧ 8 + (n' + 11) + 50 * d ≤ 50 * D) (hf : k + mc ≤ M ∧ n + ms ≤ S) (dd : decode cc pc = .ok (.invokestatic idx, 3))
    (kk : ∀ (v : Option Value) (h' : gH), Q v h' → GJ Z Γ h' (k + mc) (n + ms) (pc + 3) lv (v.toList ++ rest)) (kx : ∀ (E : String) (h' : gH), QX E h' → GX Z Γ h' (k + mc) (n + ms) pc lv rest E) : GJ Z Γ h k n pc lv st :=
  g_callS X L hM hna hst hcat (by rw [RM]; exact hD) (by rw [RM]; exact hf) dd kk kx
theorem gp_thr {ik is ic mc ms D M S : Nat} {cls text : String} {names : List String} {Q : Option Value → gH → Prop} {QX : String → gH → Prop} (X : gOK Z Γ cc own nL ret) (RM : Γ.2.2.1 = gRm D M S) (Nt : gNoTab Γ) (E : gEnd Z Γ mc ms Q QX) (TH : gThr own ik ic cls names) (hstr : (own, is, text) ∈ gStrs)
    (d0 : decode cc pc = .ok (.new ik, 3)) (d3 : decode cc (pc + 3) = .ok (.dup, 1)) (d4 : decode cc (pc + 4) = .ok (.ldc is, 2)) (d6 : decode cc (pc + 6) = .ok (.invokespecial ic, 3)) (d9 : decode cc (pc + 9) = .ok (.athrow, 1))
    (hR1 : names.length + 3 < D ∧ (st.map fun v => v.category).sum + (13 * (names.length + 1) + 43) ≤ 50 * D ∧ k + 1 ≤ M ∧ n + 6 ≤ S ∧ k + 1 ≤ mc ∧ n + 6 ≤ ms) (hq : QX cls h) : GJ Z Γ h k n pc lv st :=
  g_throw X Nt E TH hstr d0 d3 d4 d6 d9 (by rw [RM]; exact hR1.1) (by rw [RM]; exact hR1.2.1) (by rw [RM]; exact hR1.2.2.1) (by rw [RM]; exact hR1.2.2.2.1) hR1.2.2.2.2.1 hR1.2.2.2.2.2 hq
theorem gp_thrW {ik is ic mc ms D M S : Nat} {cls text : String} {names : List String} {Q : Option Value → gH → Prop} {QX : String → gH → Prop} (X : gOK Z Γ cc own nL ret) (RM : Γ.2.2.1 = gRm D M S) (Nt : gNoTab Γ) (E : gEnd Z Γ mc ms Q QX) (TH : gThr own ik ic cls names) (hstr : (own, is, text) ∈ gStrs)
    (d0 : decode cc pc = .ok (.new ik, 3)) (d3 : decode cc (pc + 3) = .ok (.dup, 1)) (d4 : decode cc (pc + 4) = .ok (.ldc_w is, 3)) (d7 : decode cc (pc + 7) = .ok (.invokespecial ic, 3)) (d10 : decode cc (pc + 10) = .ok (.athrow, 1))
    (hR1 : names.length + 3 < D ∧ (st.map fun v => v.category).sum + (13 * (names.length + 1) + 43) ≤ 50 * D ∧ k + 1 ≤ M ∧ n + 6 ≤ S ∧ k + 1 ≤ mc ∧ n + 6 ≤ ms) (hq : QX cls h) : GJ Z Γ h k n pc lv st :=
  g_throwW X Nt E TH hstr d0 d3 d4 d7 d10 (by rw [RM]; exact hR1.1) (by rw [RM]; exact hR1.2.1) (by rw [RM]; exact hR1.2.2.1) (by rw [RM]; exact hR1.2.2.2.1) hR1.2.2.2.2.1 hR1.2.2.2.2.2 hq
end GPROWS
