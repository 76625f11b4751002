/-! new objects: rows over a heap that is not named, constructors, and how a state grows -/
section GALLOC
variable {Z : gEnv} {Γ : gCtx} {cc : ByteArray} {own : String} {nL : Nat} {ret : Option FieldType} {h : gH} {k n pc : Nat} {lv lv' : List (Nat × Value)} {st st' : List Value} {ad : gAd} {P : gP}
theorem gw_put {ci j N index a : Nat} {C : String} {T : u_T} {ty : Nat → FieldType} {fs fs' : List Value} {v : Value} (X : gOK Z Γ cc own nL ret) (K : gCls ci C T ty N) (hlk : Cond.fieldLink own index C (T j).2.1 (T j).2.2.1 ∈ gT) (hT : (T j).1 = C) (hj : j < N)
    (ha : h a = some (.inr (ci, fs))) (hfin : (T j).2.2.2 = false) (hn : narrow (ty j) v = v) (hfit : fits (ty j) v = true) (hlen : j < fs.length) (hs : fs.set j v = fs') (d : decode cc pc = .ok (.putfield index, 3))
    (kk : ∀ h' : gH, h' a = some (.inr (ci, fs')) → (∀ x, x ≠ a → h' x = h x) → GJ Z Γ h' k n (pc + 3) lv st) : GJ Z Γ h k n pc lv (v :: .ref a :: st) := g_put X K hlk hT hj ha hfin hn hfit hlen d (kk _ (by rw [← hs]; exact if_pos rfl) (fun x hx => if_neg hx))
theorem gw_putF {ci j N index a : Nat} {C : String} {T : u_T} {ty : Nat → FieldType} {fs fs' : List Value} {v : Value} (X : gOK Z Γ cc own nL ret) (K : gCls ci C T ty N) (hlk : Cond.fieldLink own index C (T j).2.1 (T j).2.2.1 ∈ gT) (hT : (T j).1 = C) (hj : j < N)
    (ha : h a = some (.inr (ci, fs))) (hfin : (T j).2.2.2 = true) (hin : Γ.2.2.2.2.2.2.2.1.name = "<init>") (hown : C = own) (hn : narrow (ty j) v = v) (hfit : fits (ty j) v = true) (hlen : j < fs.length) (hs : fs.set j v = fs') (d : decode cc pc = .ok (.putfield index, 3))
    (kk : ∀ h' : gH, h' a = some (.inr (ci, fs')) → (∀ x, x ≠ a → h' x = h x) → GJ Z Γ h' k n (pc + 3) lv st) : GJ Z Γ h k n pc lv (v :: .ref a :: st) := g_putF X K hlk hT hj ha hfin hin hown hn hfit hlen d (kk _ (by rw [← hs]; exact if_pos rfl) (fun x hx => if_neg hx))
theorem gw_new {ci N index : Nat} {C : String} {T : u_T} {ty : Nat → FieldType} (fs : List Value) (X : gOK Z Γ cc own nL ret) (K : gCls ci C T ty N) (hlk : Cond.classLink own index C ∈ gT) (hfs : ∀ j, j < N → defaultValue (ty j) = vp_V fs j) (hc : k + 1 ≤ Γ.2.2.1.cells) (hs : n + N ≤ Γ.2.2.1.slots) (d : decode cc pc = .ok (.new index, 3))
    (kk : ∀ (q : Nat) (h' : gH), gNew h q → h' q = some (.inr (ci, fs)) → (∀ x, x ≠ q → h' x = h x) → GJ Z Γ h' (k + 1) (n + N) (pc + 3) lv (.ref q :: st)) : GJ Z Γ h k n pc lv st := g_new fs X K hlk hfs hc hs d (fun q h1 _ => kk q _ h1 (if_pos rfl) (fun x hx => if_neg hx))
theorem gw_newi {t N : Nat} {x : Int32} (X : gOK Z Γ cc own nL ret) (ht : gTy Z t .int) (hx : ¬ x < 0) (hN : x.toNatClampNeg = N) (hb : N * 4 ≤ 536870912) (hc : k + 1 ≤ Γ.2.2.1.cells) (hs : n + N ≤ Γ.2.2.1.slots) (d : decode cc pc = .ok (.newarray .int, 2))
    (kk : ∀ (q : Nat) (h' : gH), gNew h q → h' q = some (.inl (Z.2.2.2.1 t, N, .inl (fun _ => 0))) → (∀ x, x ≠ q → h' x = h x) → GJ Z Γ h' (k + 1) (n + N) (pc + 2) lv (.ref q :: st)) : GJ Z Γ h k n pc lv (.int x :: st) := g_newi X ht la_int hx hN hb hc hs d (fun q h1 _ => kk q _ h1 (if_pos rfl) (fun x hx => if_neg hx))
theorem gw_newq {t N index : Nat} {C : String} {x : Int32} (X : gOK Z Γ cc own nL ret) (ht : gTy Z t (.object C)) (harr : Cond.arrayOver (.object C) ∈ tables_1) (hC : C ∈ gArs) (hlk : Cond.classLink own index C ∈ gT) (hx : ¬ x < 0) (hN : x.toNatClampNeg = N) (hb : N * 4 ≤ 536870912) (hc : k + 1 ≤ Γ.2.2.1.cells) (hs : n + N ≤ Γ.2.2.1.slots) (d : decode cc pc = .ok (.anewarray index, 3))
    (kk : ∀ (q : Nat) (h' : gH), gNew h q → h' q = some (.inl (Z.2.2.2.1 t, N, gRow (fun _ => none))) → (∀ x, x ≠ q → h' x = h x) → GJ Z Γ h' (k + 1) (n + N) (pc + 3) lv (.ref q :: st)) : GJ Z Γ h k n pc lv (.int x :: st) := g_newq X ht harr (X.stt.2.2.2.2.2.1 C hC) hlk hx hN hb hc hs d (fun q h1 _ => kk q _ h1 (if_pos rfl) (fun x hx => if_neg hx))
theorem gw_aast {a t m v ci N j : Nat} {C : String} {T : u_T} {ty : Nat → FieldType} {f : Nat → Option Nat} {fs : List Value} {i : Int32} (X : gOK Z Γ cc own nL ret) (K : gCls ci C T ty N) (ht : gTy Z t (.object C)) (ha : h a = some (.inl (Z.2.2.2.1 t, m, gRow f))) (hvv : h v = some (.inr (ci, fs))) (hi : i = nI j) (hj : j < m) (hm : m < 2 ^ 31) (d : decode cc pc = .ok (.aastore, 1))
    (kk : ∀ h' : gH, h' a = some (.inl (Z.2.2.2.1 t, m, gRow (va_up f j (some v)))) → (∀ x, x ≠ a → h' x = h x) → GJ Z Γ h' k n (pc + 1) lv st) : GJ Z Γ h k n pc lv (.ref v :: .int i :: .ref a :: st) := by
  subst hi
  refine g_aast X K ht ha hvv (vp_in_nI hj hm) d ?_
  rw [nI_clamp (Nat.lt_trans hj hm)]
  exact kk _ (if_pos rfl) (fun x hx => if_neg hx)
theorem gw_geti {ci j N index a : Nat} {C : String} {T : u_T} {ty : Nat → FieldType} {fs : List Value} {v : Int32} (X : gOK Z Γ cc own nL ret) (K : gCls ci C T ty N) (hlk : Cond.fieldLink own index C (T j).2.1 (T j).2.2.1 ∈ gT) (hT : (T j).1 = C) (hj : j < N)
    (ha : h a = some (.inr (ci, fs))) (hv : fs[j]? = some (.int v)) (d : decode cc pc = .ok (.getfield index, 3)) (kk : ∀ x : Int32, x = v → GJ Z Γ h k n (pc + 3) lv (.int x :: st)) : GJ Z Γ h k n pc lv (.ref a :: st) := g_get X K hlk hT hj ha hv d (kk v rfl)
/-- the state grows by objects of N -/
theorem gRep.grow {ad' : gAd} {P' : gP} {h' : gH} (hR : gRep Z ad P h) (N : Nat → Nat → Nat → Prop)
    (h1 : ∀ k r i, gLive P' k r i → ¬ N k r i → gLive P k r i ∧ ad' k r i = ad k r i)
    (h2 : ∀ k r i, gLive P' k r i → h' (ad' k r i) = some (gCell Z.2.2.2.1 ad' P' k r i))
    (h3 : ∀ k r i k' r' i', gLive P k r i → gLive P' k' r' i' → N k' r' i' → ad k r i ≠ ad' k' r' i')
    (h4 : ∀ k r i k' r' i', N k r i → N k' r' i' → ad' k r i = ad' k' r' i' → k = k' ∧ r = r' ∧ i = i') : gRep Z ad' P' h' := by
  refine ⟨h2, fun k r i k' r' i' l1 l2 e => ?_⟩
  by_cases n1 : N k r i
  · by_cases n2 : N k' r' i'
    · exact h4 _ _ _ _ _ _ n1 n2 e
    · obtain ⟨q1, q2⟩ := h1 _ _ _ l2 n2
      exact absurd (q2.symm.trans e.symm) (h3 _ _ _ _ _ _ q1 l1 n1)
  · obtain ⟨q1, q2⟩ := h1 _ _ _ l1 n1
    by_cases n2 : N k' r' i'
    · exact absurd (q2.symm.trans e) (h3 _ _ _ _ _ _ q1 l2 n2)
    · obtain ⟨q3, q4⟩ := h1 _ _ _ l2 n2
      exact hR.2 _ _ _ _ _ _ q1 q3 (q2.symm.trans (e.trans q4))
theorem gRep.ext {h' : gH} (hR : gRep Z ad P h) (hx : ∀ a x, h a = some x → h' a = some x) : gRep Z ad P h' := ⟨fun k r i hl => hx _ _ (hR.1 k r i hl), hR.2⟩
theorem gRep.lt {q : Nat} (hR : gRep Z ad P h) (hq : gNew h q) {k r i : Nat} (hl : gLive P k r i) : ad k r i < q := hq _ _ (hR.1 k r i hl)
def adU (ad : gAd) (k0 r0 i0 a : Nat) : gAd := fun k r i => if k = k0 ∧ r = r0 ∧ i = i0 then a else ad k r i
theorem adU_k {k0 r0 i0 a k r i : Nat} (h : k ≠ k0) : adU ad k0 r0 i0 a k r i = ad k r i := if_neg (fun hh => h hh.1)
theorem adU_s {k0 r0 i0 a : Nat} : adU ad k0 r0 i0 a k0 r0 i0 = a := if_pos ⟨rfl, rfl, rfl⟩
theorem adU_n {k0 r0 i0 a k r i : Nat} (h : ¬ (k = k0 ∧ r = r0 ∧ i = i0)) : adU ad k0 r0 i0 a k r i = ad k r i := if_neg h
def uO (P : gP) (k r i : Nat) (f : Nat → Int32) : gP := (fun k' r' i' s' => if k' = k ∧ r' = r ∧ i' = i then f s' else P.1 k' r' i' s', P.2)
theorem pI_uO (P : gP) (k0 r0 i0 : Nat) (f : Nat → Int32) (k r i s : Nat) : pI (uO P k0 r0 i0 f) k r i s = if k = k0 ∧ r = r0 ∧ i = i0 then f s else pI P k r i s := rfl
def fAddB (P : gP) (r : Nat) (a b c d : Int32) : gP := unB (uO P 0 r (pnB P r) (fun s => [a, b, c, d, 116, 116].getD s 0)) r (pnB P r + 1)
def fEnter (P : gP) (m a b : Int32) : gP := uJ (unG (uGL (uO P 1 (pnG P) 0 (fun s => [m, a, b, 0, 0, 0, 112, -1, 0, 0, 0].getD s 0)) (pnG P) none) (pnG P + 1)) 10 (pJ P 10 + m.toInt64)
def fAddT (P : gP) (r : Nat) (s : Int32) : gP := unT (sRD (uO P 5 r (pnT P r) (fun j => [s, 0, 0, 0, 0, 115, 1, 0, 0].getD j 0)) r (pnT P r) (fun _ => none)) r (pnT P r + 1)
def fAddR (P : gP) (a b c : Int32) : gP :=
  let r := pnR P
  unR (unT (unB (sPL (sPL (sPL (uI (uI (uI (uI (uO P 3 r 0 (fun j => [a, b, c, 0, 0, 0, 0, 0, 0, -1, 0, 0, 0, 0, 0].getD j 0)) 4 r 0 2 0) 2 r 0 1 0) 2 r 1 1 0) 2 r 2 1 0) r 0 (fun _ => none)) r 1 (fun _ => none)) r 2 (fun _ => none)) r 0) r 0) (r + 1)
set_option maxHeartbeats 4000000 in
set_option maxRecDepth 100000 in
theorem k_X0 (G : gG Z) {a : Nat} {p1 p2 p3 p4 : Int32} (hk : gChr p1) (f_a : h a = some (.inr (2, [.int 0, .int 0, .int 0, .int 0, .int 0, .int 0]))) : gMetI Z yX0_init cX0_init 5 1 0 0 [.ref a, .int p1, .int p2, .int p3, .int p4] h (fun h2 => h2 a = some (.inr (2, [.int p1, .int p2, .int p3, .int p4, .int 116, .int 116])) ∧ ∀ x c, h x = some c → x ≠ a → h2 x = some c) := by
  refine g_enterI (lv := [(0, .ref a), (1, .int p1), (2, .int p2), (3, .int p3), (4, .int p4)]) G.2 (by decide +kernel) rfl (Nat.le_of_ble_eq_true rfl) rfl (fun Γ X hin E RM => ?_)
  obtain ⟨h0, hh0⟩ : ∃ h0, h0 = h := ⟨_, rfl⟩
  have old : ∀ x c, h0 x = some c → x ≠ a → h x = some c := fun x c hx _ => by rw [← hh0]; exact hx
  refine g_aload_n X dX0_init_0 rfl ?_
  refine g_objInit X lo_X0 lo_in lo_co (by rw [RM]; exact Nat.le_of_ble_eq_true rfl) (by rw [RM]; exact Nat.le_of_ble_eq_true rfl) dX0_init_1 ?_
  refine g_aload_n X dX0_init_4 rfl ?_
  refine g_bipush (v := 116) X dX0_init_5 (by decide) ?_
  refine gw_put (j := 4) (fs' := [.int 0, .int 0, .int 0, .int 0, .int 116, .int 0]) X cl_X0 lk_X0_9 rfl (by decide) f_a rfl (by decide) (by decide) (Nat.le_of_ble_eq_true rfl) rfl dX0_init_7 (fun h f_a fx => ?_)
  have old : ∀ x c, h0 x = some c → x ≠ a → h x = some c := fun x c hx hn => (fx x hn).trans (old x c hx hn)
  refine g_aload_n X dX0_init_10 rfl ?_
  refine g_bipush (v := 116) X dX0_init_11 (by decide) ?_
  refine gw_put (j := 5) (fs' := [.int 0, .int 0, .int 0, .int 0, .int 116, .int 116]) X cl_X0 lk_X0_15 rfl (by decide) f_a rfl (by decide) (by decide) (Nat.le_of_ble_eq_true rfl) rfl dX0_init_13 (fun h f_a fx => ?_)
  have old : ∀ x c, h0 x = some c → x ≠ a → h x = some c := fun x c hx hn => (fx x hn).trans (old x c hx hn)
  refine g_aload_n X dX0_init_16 rfl ?_
  refine g_iload_n X dX0_init_17 rfl ?_
  refine gw_putF (j := 0) (fs' := [.int p1, .int 0, .int 0, .int 0, .int 116, .int 116]) X cl_X0 lk_X0_18 rfl (by decide) f_a rfl hin rfl hk.1 hk.2 (Nat.le_of_ble_eq_true rfl) rfl dX0_init_18 (fun h f_a fx => ?_)
  have old : ∀ x c, h0 x = some c → x ≠ a → h x = some c := fun x c hx hn => (fx x hn).trans (old x c hx hn)
  refine g_aload_n X dX0_init_21 rfl ?_
  refine g_iload_n X dX0_init_22 rfl ?_
  refine gw_putF (j := 1) (fs' := [.int p1, .int p2, .int 0, .int 0, .int 116, .int 116]) X cl_X0 lk_X0_21 rfl (by decide) f_a rfl hin rfl rfl rfl (Nat.le_of_ble_eq_true rfl) rfl dX0_init_23 (fun h f_a fx => ?_)
  have old : ∀ x c, h0 x = some c → x ≠ a → h x = some c := fun x c hx hn => (fx x hn).trans (old x c hx hn)
  refine g_aload_n X dX0_init_26 rfl ?_
  refine g_iload_n X dX0_init_27 rfl ?_
  refine gw_putF (j := 2) (fs' := [.int p1, .int p2, .int p3, .int 0, .int 116, .int 116]) X cl_X0 lk_X0_25 rfl (by decide) f_a rfl hin rfl rfl rfl (Nat.le_of_ble_eq_true rfl) rfl dX0_init_28 (fun h f_a fx => ?_)
  have old : ∀ x c, h0 x = some c → x ≠ a → h x = some c := fun x c hx hn => (fx x hn).trans (old x c hx hn)
  refine g_aload_n X dX0_init_31 rfl ?_
  refine g_iload X dX0_init_32 rfl ?_
  refine gw_putF (j := 3) (fs' := [.int p1, .int p2, .int p3, .int p4, .int 116, .int 116]) X cl_X0 lk_X0_28 rfl (by decide) f_a rfl hin rfl rfl rfl (Nat.le_of_ble_eq_true rfl) rfl dX0_init_34 (fun h f_a fx => ?_)
  have old : ∀ x c, h0 x = some c → x ≠ a → h x = some c := fun x c hx hn => (fx x hn).trans (old x c hx hn)
  refine g_returnI X E dX0_init_37 (Nat.le_of_ble_eq_true rfl) (Nat.le_of_ble_eq_true rfl) ?_
  exact ⟨f_a, hh0 ▸ old⟩
set_option maxHeartbeats 4000000 in
set_option maxRecDepth 100000 in
theorem k_X1 (G : gG Z) {a : Nat} {p1 p2 p3 : Int32} (f_a : h a = some (.inr (3, [.int 0, .int 0, .int 0, .int 0, .int 0, .int 0, .int 0, .int 0, .int 0, .null, .int 0]))) : gMetI Z yX1_init cX1_init 4 1 0 0 [.ref a, .int p1, .int p2, .int p3] h (fun h2 => h2 a = some (.inr (3, [.int p1, .int p2, .int p3, .int 0, .int 0, .int 0, .int 112, .int (-1), .int 0, .null, .int 0])) ∧ ∀ x c, h x = some c → x ≠ a → h2 x = some c) := by
  refine g_enterI (lv := [(0, .ref a), (1, .int p1), (2, .int p2), (3, .int p3)]) G.2 (by decide +kernel) rfl (Nat.le_of_ble_eq_true rfl) rfl (fun Γ X hin E RM => ?_)
  obtain ⟨h0, hh0⟩ : ∃ h0, h0 = h := ⟨_, rfl⟩
  have old : ∀ x c, h0 x = some c → x ≠ a → h x = some c := fun x c hx _ => by rw [← hh0]; exact hx
  refine g_aload_n X dX1_init_0 rfl ?_
  refine g_objInit X lo_X1 lo_in lo_co (by rw [RM]; exact Nat.le_of_ble_eq_true rfl) (by rw [RM]; exact Nat.le_of_ble_eq_true rfl) dX1_init_1 ?_
  refine g_aload_n X dX1_init_4 rfl ?_
  refine g_bipush (v := 112) X dX1_init_5 (by decide) ?_
  refine gw_put (j := 6) (fs' := [.int 0, .int 0, .int 0, .int 0, .int 0, .int 0, .int 112, .int 0, .int 0, .null, .int 0]) X cl_X1 lk_X1_9 rfl (by decide) f_a rfl (by decide) (by decide) (Nat.le_of_ble_eq_true rfl) rfl dX1_init_7 (fun h f_a fx => ?_)
  have old : ∀ x c, h0 x = some c → x ≠ a → h x = some c := fun x c hx hn => (fx x hn).trans (old x c hx hn)
  refine g_aload_n X dX1_init_10 rfl ?_
  refine g_iconst (v := (-1)) X dX1_init_11 (by decide) ?_
  refine gw_put (j := 7) (fs' := [.int 0, .int 0, .int 0, .int 0, .int 0, .int 0, .int 112, .int (-1), .int 0, .null, .int 0]) X cl_X1 lk_X1_15 rfl (by decide) f_a rfl rfl rfl (Nat.le_of_ble_eq_true rfl) rfl dX1_init_12 (fun h f_a fx => ?_)
  have old : ∀ x c, h0 x = some c → x ≠ a → h x = some c := fun x c hx hn => (fx x hn).trans (old x c hx hn)
  refine g_aload_n X dX1_init_15 rfl ?_
  refine g_iload_n X dX1_init_16 rfl ?_
  refine gw_put (j := 0) (fs' := [.int p1, .int 0, .int 0, .int 0, .int 0, .int 0, .int 112, .int (-1), .int 0, .null, .int 0]) X cl_X1 lk_X1_19 rfl (by decide) f_a rfl rfl rfl (Nat.le_of_ble_eq_true rfl) rfl dX1_init_17 (fun h f_a fx => ?_)
  have old : ∀ x c, h0 x = some c → x ≠ a → h x = some c := fun x c hx hn => (fx x hn).trans (old x c hx hn)
  refine g_aload_n X dX1_init_20 rfl ?_
  refine g_iload_n X dX1_init_21 rfl ?_
  refine gw_putF (j := 1) (fs' := [.int p1, .int p2, .int 0, .int 0, .int 0, .int 0, .int 112, .int (-1), .int 0, .null, .int 0]) X cl_X1 lk_X1_22 rfl (by decide) f_a rfl hin rfl rfl rfl (Nat.le_of_ble_eq_true rfl) rfl dX1_init_22 (fun h f_a fx => ?_)
  have old : ∀ x c, h0 x = some c → x ≠ a → h x = some c := fun x c hx hn => (fx x hn).trans (old x c hx hn)
  refine g_aload_n X dX1_init_25 rfl ?_
  refine g_iload_n X dX1_init_26 rfl ?_
  refine gw_putF (j := 2) (fs' := [.int p1, .int p2, .int p3, .int 0, .int 0, .int 0, .int 112, .int (-1), .int 0, .null, .int 0]) X cl_X1 lk_X1_25 rfl (by decide) f_a rfl hin rfl rfl rfl (Nat.le_of_ble_eq_true rfl) rfl dX1_init_27 (fun h f_a fx => ?_)
  have old : ∀ x c, h0 x = some c → x ≠ a → h x = some c := fun x c hx hn => (fx x hn).trans (old x c hx hn)
  refine g_returnI X E dX1_init_30 (Nat.le_of_ble_eq_true rfl) (Nat.le_of_ble_eq_true rfl) ?_
  exact ⟨f_a, hh0 ▸ old⟩
set_option maxHeartbeats 4000000 in
set_option maxRecDepth 100000 in
theorem k_X2 (G : gG Z) {a : Nat} (f_a : h a = some (.inr (4, [.null, .int 0]))) : gMetI Z yX2_init cX2_init 1 1 1 60 [.ref a] h (fun h2 => ∃ q, gNew h q ∧ h2 q = some (.inl (Z.2.2.2.1 2, 60, gRow (fun _ => none))) ∧ h2 a = some (.inr (4, [.ref q, .int 0])) ∧ ∀ x c, h x = some c → x ≠ a → h2 x = some c) := by
  refine g_enterI (lv := [(0, .ref a)]) G.2 (by decide +kernel) rfl (Nat.le_of_ble_eq_true rfl) rfl (fun Γ X hin E RM => ?_)
  obtain ⟨h0, hh0⟩ : ∃ h0, h0 = h := ⟨_, rfl⟩
  have old : ∀ x c, h0 x = some c → x ≠ a → h x = some c := fun x c hx _ => by rw [← hh0]; exact hx
  refine g_aload_n X dX2_init_0 rfl ?_
  refine g_objInit X lo_X2 lo_in lo_co (by rw [RM]; exact Nat.le_of_ble_eq_true rfl) (by rw [RM]; exact Nat.le_of_ble_eq_true rfl) dX2_init_1 ?_
  refine g_aload_n X dX2_init_4 rfl ?_
  refine g_bipush (v := 60) X dX2_init_5 (by decide) ?_
  refine gw_newq (N := 60) X G.t2 la_Guest (by decide) lc_X2_9 (by decide) (by decide) (by decide) (by rw [RM]; exact Nat.le_of_ble_eq_true rfl) (by rw [RM]; exact Nat.le_of_ble_eq_true rfl) dX2_init_7 (fun q7 h g_q7 f_q7 fx => ?_)
  have l_q7 : a < q7 := g_q7 _ _ f_a
  have n_a_q7 : a ≠ q7 := gNew.ne g_q7 f_a
  have n_q7_a : q7 ≠ a := n_a_q7.symm
  have on_q7 : ∀ x c, h0 x = some c → x ≠ a → x ≠ q7 := fun x c hx hn => gNew.ne g_q7 (old x c hx hn)
  have f_a := (fx a n_a_q7).trans f_a
  have old : ∀ x c, h0 x = some c → x ≠ a → h x = some c := fun x c hx hn => (fx x (on_q7 x c hx hn)).trans (old x c hx hn)
  refine gw_putF (j := 0) (fs' := [.ref q7, .int 0]) X cl_X2 lk_X2_11 rfl (by decide) f_a rfl hin rfl rfl rfl (Nat.le_of_ble_eq_true rfl) rfl dX2_init_10 (fun h f_a fx => ?_)
  have f_q7 := (fx q7 n_q7_a).trans f_q7
  have old : ∀ x c, h0 x = some c → x ≠ a → h x = some c := fun x c hx hn => (fx x hn).trans (old x c hx hn)
  refine g_returnI X E dX2_init_13 (Nat.le_of_ble_eq_true rfl) (Nat.le_of_ble_eq_true rfl) ?_
  exact ⟨q7, hh0 ▸ g_q7, f_q7, f_a, hh0 ▸ old⟩
set_option maxHeartbeats 4000000 in
set_option maxRecDepth 100000 in
theorem k_X4 (G : gG Z) {a : Nat} (f_a : h a = some (.inr (6, [.null, .int 0, .int 0]))) : gMetI Z yX4_init cX4_init 1 1 1 12 [.ref a] h (fun h2 => ∃ q, gNew h q ∧ h2 q = some (.inl (Z.2.2.2.1 3, 12, gRow (fun _ => none))) ∧ h2 a = some (.inr (6, [.ref q, .int 0, .int 0])) ∧ ∀ x c, h x = some c → x ≠ a → h2 x = some c) := by
  refine g_enterI (lv := [(0, .ref a)]) G.2 (by decide +kernel) rfl (Nat.le_of_ble_eq_true rfl) rfl (fun Γ X hin E RM => ?_)
  obtain ⟨h0, hh0⟩ : ∃ h0, h0 = h := ⟨_, rfl⟩
  have old : ∀ x c, h0 x = some c → x ≠ a → h x = some c := fun x c hx _ => by rw [← hh0]; exact hx
  refine g_aload_n X dX4_init_0 rfl ?_
  refine g_objInit X lo_X4 lo_in lo_co (by rw [RM]; exact Nat.le_of_ble_eq_true rfl) (by rw [RM]; exact Nat.le_of_ble_eq_true rfl) dX4_init_1 ?_
  refine g_aload_n X dX4_init_4 rfl ?_
  refine g_bipush (v := 12) X dX4_init_5 (by decide) ?_
  refine gw_newq (N := 12) X G.t3 la_Block (by decide) lc_X4_9 (by decide) (by decide) (by decide) (by rw [RM]; exact Nat.le_of_ble_eq_true rfl) (by rw [RM]; exact Nat.le_of_ble_eq_true rfl) dX4_init_7 (fun q7 h g_q7 f_q7 fx => ?_)
  have l_q7 : a < q7 := g_q7 _ _ f_a
  have n_a_q7 : a ≠ q7 := gNew.ne g_q7 f_a
  have n_q7_a : q7 ≠ a := n_a_q7.symm
  have on_q7 : ∀ x c, h0 x = some c → x ≠ a → x ≠ q7 := fun x c hx hn => gNew.ne g_q7 (old x c hx hn)
  have f_a := (fx a n_a_q7).trans f_a
  have old : ∀ x c, h0 x = some c → x ≠ a → h x = some c := fun x c hx hn => (fx x (on_q7 x c hx hn)).trans (old x c hx hn)
  refine gw_putF (j := 0) (fs' := [.ref q7, .int 0, .int 0]) X cl_X4 lk_X4_11 rfl (by decide) f_a rfl hin rfl rfl rfl (Nat.le_of_ble_eq_true rfl) rfl dX4_init_10 (fun h f_a fx => ?_)
  have f_q7 := (fx q7 n_q7_a).trans f_q7
  have old : ∀ x c, h0 x = some c → x ≠ a → h x = some c := fun x c hx hn => (fx x hn).trans (old x c hx hn)
  refine g_returnI X E dX4_init_13 (Nat.le_of_ble_eq_true rfl) (Nat.le_of_ble_eq_true rfl) ?_
  exact ⟨q7, hh0 ▸ g_q7, f_q7, f_a, hh0 ▸ old⟩
set_option maxHeartbeats 4000000 in
set_option maxRecDepth 100000 in
theorem k_X5 (G : gG Z) {a : Nat} {p1 : Int32} (f_a : h a = some (.inr (7, [.int 0, .null, .int 0, .int 0, .int 0, .int 0, .int 0, .int 0, .int 0]))) : gMetI Z yX5_init cX5_init 2 1 1 8 [.ref a, .int p1] h (fun h2 => ∃ q, gNew h q ∧ h2 q = some (.inl (Z.2.2.2.1 2, 8, gRow (fun _ => none))) ∧ h2 a = some (.inr (7, [.int p1, .ref q, .int 0, .int 0, .int 0, .int 115, .int 1, .int 0, .int 0])) ∧ ∀ x c, h x = some c → x ≠ a → h2 x = some c) := by
  refine g_enterI (lv := [(0, .ref a), (1, .int p1)]) G.2 (by decide +kernel) rfl (Nat.le_of_ble_eq_true rfl) rfl (fun Γ X hin E RM => ?_)
  obtain ⟨h0, hh0⟩ : ∃ h0, h0 = h := ⟨_, rfl⟩
  have old : ∀ x c, h0 x = some c → x ≠ a → h x = some c := fun x c hx _ => by rw [← hh0]; exact hx
  refine g_aload_n X dX5_init_0 rfl ?_
  refine g_objInit X lo_X5 lo_in lo_co (by rw [RM]; exact Nat.le_of_ble_eq_true rfl) (by rw [RM]; exact Nat.le_of_ble_eq_true rfl) dX5_init_1 ?_
  refine g_aload_n X dX5_init_4 rfl ?_
  refine g_iconst (v := 0) X dX5_init_5 (by decide) ?_
  refine gw_put (j := 3) (fs' := [.int 0, .null, .int 0, .int 0, .int 0, .int 0, .int 0, .int 0, .int 0]) X cl_X5 lk_X5_9 rfl (by decide) f_a rfl rfl rfl (Nat.le_of_ble_eq_true rfl) rfl dX5_init_6 (fun h f_a fx => ?_)
  have old : ∀ x c, h0 x = some c → x ≠ a → h x = some c := fun x c hx hn => (fx x hn).trans (old x c hx hn)
  refine g_aload_n X dX5_init_9 rfl ?_
  refine g_bipush (v := 115) X dX5_init_10 (by decide) ?_
  refine gw_put (j := 5) (fs' := [.int 0, .null, .int 0, .int 0, .int 0, .int 115, .int 0, .int 0, .int 0]) X cl_X5 lk_X5_15 rfl (by decide) f_a rfl (by decide) (by decide) (Nat.le_of_ble_eq_true rfl) rfl dX5_init_12 (fun h f_a fx => ?_)
  have old : ∀ x c, h0 x = some c → x ≠ a → h x = some c := fun x c hx hn => (fx x hn).trans (old x c hx hn)
  refine g_aload_n X dX5_init_15 rfl ?_
  refine g_iconst (v := 1) X dX5_init_16 (by decide) ?_
  refine gw_put (j := 6) (fs' := [.int 0, .null, .int 0, .int 0, .int 0, .int 115, .int 1, .int 0, .int 0]) X cl_X5 lk_X5_19 rfl (by decide) f_a rfl rfl rfl (Nat.le_of_ble_eq_true rfl) rfl dX5_init_17 (fun h f_a fx => ?_)
  have old : ∀ x c, h0 x = some c → x ≠ a → h x = some c := fun x c hx hn => (fx x hn).trans (old x c hx hn)
  refine g_aload_n X dX5_init_20 rfl ?_
  refine g_iload_n X dX5_init_21 rfl ?_
  refine gw_putF (j := 0) (fs' := [.int p1, .null, .int 0, .int 0, .int 0, .int 115, .int 1, .int 0, .int 0]) X cl_X5 lk_X5_22 rfl (by decide) f_a rfl hin rfl rfl rfl (Nat.le_of_ble_eq_true rfl) rfl dX5_init_22 (fun h f_a fx => ?_)
  have old : ∀ x c, h0 x = some c → x ≠ a → h x = some c := fun x c hx hn => (fx x hn).trans (old x c hx hn)
  refine g_aload_n X dX5_init_25 rfl ?_
  have oldb := old
  have f_ab := f_a
  refine g_bipush (v := 8) X dX5_init_26 (by decide) ?_
  refine gw_newq (N := 8) X G.t2 la_Guest (by decide) lc_X5_25 (by decide) (by decide) (by decide) (by rw [RM]; exact Nat.le_of_ble_eq_true rfl) (by rw [RM]; exact Nat.le_of_ble_eq_true rfl) dX5_init_28 (fun q28 h g_q28 f_q28 fx => ?_)
  have l_q28 : a < q28 := g_q28 _ _ f_a
  have n_a_q28 : a ≠ q28 := gNew.ne g_q28 f_a
  have n_q28_a : q28 ≠ a := n_a_q28.symm
  have on_q28 : ∀ x c, h0 x = some c → x ≠ a → x ≠ q28 := fun x c hx hn => gNew.ne g_q28 (old x c hx hn)
  have f_a := (fx a n_a_q28).trans f_a
  have old : ∀ x c, h0 x = some c → x ≠ a → h x = some c := fun x c hx hn => (fx x (on_q28 x c hx hn)).trans (old x c hx hn)
  have gnew : gNew h0 q28 := fun x c hx => if hxa : x = a then hxa ▸ g_q28 a _ f_ab else g_q28 x c (oldb x c hx hxa)
  refine gw_putF (j := 1) (fs' := [.int p1, .ref q28, .int 0, .int 0, .int 0, .int 115, .int 1, .int 0, .int 0]) X cl_X5 lk_X5_27 rfl (by decide) f_a rfl hin rfl rfl rfl (Nat.le_of_ble_eq_true rfl) rfl dX5_init_31 (fun h f_a fx => ?_)
  have f_q28 := (fx q28 n_q28_a).trans f_q28
  have old : ∀ x c, h0 x = some c → x ≠ a → h x = some c := fun x c hx hn => (fx x hn).trans (old x c hx hn)
  refine g_returnI X E dX5_init_34 (Nat.le_of_ble_eq_true rfl) (Nat.le_of_ble_eq_true rfl) ?_
  exact ⟨q28, hh0 ▸ gnew, f_q28, f_a, hh0 ▸ old⟩
/-- a ride's new cells -/
def gRide (Z : gEnv) (h2 : gH) (a q5 q9 q17 q24 q28 q35 q39 q46 q50 : Nat) (p1 p2 p3 : Int32) : Prop := (a < q5 ∧ q5 < q9 ∧ q9 < q17 ∧ q17 < q24 ∧ q24 < q28 ∧ q28 < q35 ∧ q35 < q39 ∧ q39 < q46 ∧ q46 < q50) ∧
  h2 a = some (.inr (5, [.int p1, .int p2, .int p3, .ref q5, .ref q17, .int 0, .ref q24, .ref q35, .ref q46, .int (-1), .int 0, .int 0, .int 0, .int 0, .int 0])) ∧
  h2 q5 = some (.inr (6, [.ref q9, .int 0, .int 0])) ∧ h2 q9 = some (.inl (Z.2.2.2.1 3, 12, gRow (fun _ => none))) ∧ h2 q17 = some (.inl (Z.2.2.2.1 4, 4, gRow (fun _ => none))) ∧ h2 q24 = some (.inr (4, [.ref q28, .int 0])) ∧ h2 q28 = some (.inl (Z.2.2.2.1 2, 60, gRow (fun _ => none))) ∧ h2 q35 = some (.inr (4, [.ref q39, .int 0])) ∧ h2 q39 = some (.inl (Z.2.2.2.1 2, 60, gRow (fun _ => none))) ∧ h2 q46 = some (.inr (4, [.ref q50, .int 0])) ∧ h2 q50 = some (.inl (Z.2.2.2.1 2, 60, gRow (fun _ => none)))
set_option maxHeartbeats 4000000 in
set_option maxRecDepth 100000 in
theorem k_X3 (G : gG Z) {a : Nat} {p1 p2 p3 : Int32} (f_a : h a = some (.inr (5, [.int 0, .int 0, .int 0, .null, .null, .int 0, .null, .null, .null, .int 0, .int 0, .int 0, .int 0, .int 0, .int 0]))) : gMetI Z yX3_init cX3_init 4 2 9 209 [.ref a, .int p1, .int p2, .int p3] h (fun h2 => ∃ q5 q9 q17 q24 q28 q35 q39 q46 q50, gRide Z h2 a q5 q9 q17 q24 q28 q35 q39 q46 q50 p1 p2 p3 ∧ ∀ x c, h x = some c → x ≠ a → h2 x = some c) := by
  refine g_enterI (lv := [(0, .ref a), (1, .int p1), (2, .int p2), (3, .int p3)]) G.2 (by decide +kernel) rfl (Nat.le_of_ble_eq_true rfl) rfl (fun Γ X hin E RM => ?_)
  obtain ⟨h0, hh0⟩ : ∃ h0, h0 = h := ⟨_, rfl⟩
  have old : ∀ x c, h0 x = some c → x ≠ a → h x = some c := fun x c hx _ => by rw [← hh0]; exact hx
  refine g_aload_n X dX3_init_0 rfl ?_
  refine g_objInit X lo_X3 lo_in lo_co (by rw [RM]; exact Nat.le_of_ble_eq_true rfl) (by rw [RM]; exact Nat.le_of_ble_eq_true rfl) dX3_init_1 ?_
  refine g_aload_n X dX3_init_4 rfl ?_
  refine gw_new [.null, .int 0, .int 0] X cl_X4 lc_X3_9 (fun j hj => by rcases j with _ | _ | _ | j <;> first | rfl | omega) (by rw [RM]; exact Nat.le_of_ble_eq_true rfl) (by rw [RM]; exact Nat.le_of_ble_eq_true rfl) dX3_init_5 (fun q5 h g_q5 f_q5 fx => ?_)
  have l_q5 : a < q5 := g_q5 _ _ f_a
  have n_a_q5 : a ≠ q5 := gNew.ne g_q5 f_a
  have n_q5_a : q5 ≠ a := n_a_q5.symm
  have on_q5 : ∀ x c, h0 x = some c → x ≠ a → x ≠ q5 := fun x c hx hn => gNew.ne g_q5 (old x c hx hn)
  have f_a := (fx a n_a_q5).trans f_a
  have old : ∀ x c, h0 x = some c → x ≠ a → h x = some c := fun x c hx hn => (fx x (on_q5 x c hx hn)).trans (old x c hx hn)
  refine g_dup X dX3_init_8 rfl ?_
  refine g_callIN X lm_X3_11 (k_X4 G f_q5) rfl rfl (Nat.le_of_ble_eq_true rfl) (by rw [RM]; exact ⟨Nat.le_of_ble_eq_true rfl, Nat.le_of_ble_eq_true rfl⟩) (by rw [RM]; exact ⟨Nat.le_of_ble_eq_true rfl, Nat.le_of_ble_eq_true rfl⟩) dX3_init_9 (fun h hq => ?_)
  obtain ⟨q9, g_q9, f_q9, fo, fx⟩ := hq
  have n_a_q9 : a ≠ q9 := gNew.ne g_q9 f_a
  have n_q9_a : q9 ≠ a := n_a_q9.symm
  have n_q5_q9 : q5 ≠ q9 := gNew.ne g_q9 f_q5
  have n_q9_q5 : q9 ≠ q5 := n_q5_q9.symm
  have l_q9 : q5 < q9 := g_q9 _ _ f_q5
  have on_q9 : ∀ x c, h0 x = some c → x ≠ a → x ≠ q9 := fun x c hx hn => gNew.ne g_q9 (old x c hx hn)
  have f_a := fx a _ f_a n_a_q5
  have f_q5 := fo
  have old : ∀ x c, h0 x = some c → x ≠ a → h x = some c := fun x c hx hn => fx x c (old x c hx hn) (on_q5 x c hx hn)
  refine gw_putF (j := 3) (fs' := [.int 0, .int 0, .int 0, .ref q5, .null, .int 0, .null, .null, .null, .int 0, .int 0, .int 0, .int 0, .int 0, .int 0]) X cl_X3 lk_X3_12 rfl (by decide) f_a rfl hin rfl rfl rfl (Nat.le_of_ble_eq_true rfl) rfl dX3_init_12 (fun h f_a fx => ?_)
  have f_q5 := (fx q5 n_q5_a).trans f_q5
  have f_q9 := (fx q9 n_q9_a).trans f_q9
  have old : ∀ x c, h0 x = some c → x ≠ a → h x = some c := fun x c hx hn => (fx x hn).trans (old x c hx hn)
  refine g_aload_n X dX3_init_15 rfl ?_
  refine g_iconst (v := 4) X dX3_init_16 (by decide) ?_
  refine gw_newq (N := 4) X G.t4 la_Train (by decide) lc_X3_18 (by decide) (by decide) (by decide) (by rw [RM]; exact Nat.le_of_ble_eq_true rfl) (by rw [RM]; exact Nat.le_of_ble_eq_true rfl) dX3_init_17 (fun q17 h g_q17 f_q17 fx => ?_)
  have l_q17 : q9 < q17 := g_q17 _ _ f_q9
  have n_a_q17 : a ≠ q17 := gNew.ne g_q17 f_a
  have n_q17_a : q17 ≠ a := n_a_q17.symm
  have n_q5_q17 : q5 ≠ q17 := gNew.ne g_q17 f_q5
  have n_q17_q5 : q17 ≠ q5 := n_q5_q17.symm
  have n_q9_q17 : q9 ≠ q17 := gNew.ne g_q17 f_q9
  have n_q17_q9 : q17 ≠ q9 := n_q9_q17.symm
  have on_q17 : ∀ x c, h0 x = some c → x ≠ a → x ≠ q17 := fun x c hx hn => gNew.ne g_q17 (old x c hx hn)
  have f_a := (fx a n_a_q17).trans f_a
  have f_q5 := (fx q5 n_q5_q17).trans f_q5
  have f_q9 := (fx q9 n_q9_q17).trans f_q9
  have old : ∀ x c, h0 x = some c → x ≠ a → h x = some c := fun x c hx hn => (fx x (on_q17 x c hx hn)).trans (old x c hx hn)
  refine gw_putF (j := 4) (fs' := [.int 0, .int 0, .int 0, .ref q5, .ref q17, .int 0, .null, .null, .null, .int 0, .int 0, .int 0, .int 0, .int 0, .int 0]) X cl_X3 lk_X3_20 rfl (by decide) f_a rfl hin rfl rfl rfl (Nat.le_of_ble_eq_true rfl) rfl dX3_init_20 (fun h f_a fx => ?_)
  have f_q5 := (fx q5 n_q5_a).trans f_q5
  have f_q9 := (fx q9 n_q9_a).trans f_q9
  have f_q17 := (fx q17 n_q17_a).trans f_q17
  have old : ∀ x c, h0 x = some c → x ≠ a → h x = some c := fun x c hx hn => (fx x hn).trans (old x c hx hn)
  refine g_aload_n X dX3_init_23 rfl ?_
  refine gw_new [.null, .int 0] X cl_X2 lc_X3_24 (fun j hj => by rcases j with _ | _ | j <;> first | rfl | omega) (by rw [RM]; exact Nat.le_of_ble_eq_true rfl) (by rw [RM]; exact Nat.le_of_ble_eq_true rfl) dX3_init_24 (fun q24 h g_q24 f_q24 fx => ?_)
  have l_q24 : q17 < q24 := g_q24 _ _ f_q17
  have n_a_q24 : a ≠ q24 := gNew.ne g_q24 f_a
  have n_q24_a : q24 ≠ a := n_a_q24.symm
  have n_q5_q24 : q5 ≠ q24 := gNew.ne g_q24 f_q5
  have n_q24_q5 : q24 ≠ q5 := n_q5_q24.symm
  have n_q9_q24 : q9 ≠ q24 := gNew.ne g_q24 f_q9
  have n_q24_q9 : q24 ≠ q9 := n_q9_q24.symm
  have n_q17_q24 : q17 ≠ q24 := gNew.ne g_q24 f_q17
  have n_q24_q17 : q24 ≠ q17 := n_q17_q24.symm
  have on_q24 : ∀ x c, h0 x = some c → x ≠ a → x ≠ q24 := fun x c hx hn => gNew.ne g_q24 (old x c hx hn)
  have f_a := (fx a n_a_q24).trans f_a
  have f_q5 := (fx q5 n_q5_q24).trans f_q5
  have f_q9 := (fx q9 n_q9_q24).trans f_q9
  have f_q17 := (fx q17 n_q17_q24).trans f_q17
  have old : ∀ x c, h0 x = some c → x ≠ a → h x = some c := fun x c hx hn => (fx x (on_q24 x c hx hn)).trans (old x c hx hn)
  refine g_dup X dX3_init_27 rfl ?_
  refine g_callIN X lm_X3_26 (k_X2 G f_q24) rfl rfl (Nat.le_of_ble_eq_true rfl) (by rw [RM]; exact ⟨Nat.le_of_ble_eq_true rfl, Nat.le_of_ble_eq_true rfl⟩) (by rw [RM]; exact ⟨Nat.le_of_ble_eq_true rfl, Nat.le_of_ble_eq_true rfl⟩) dX3_init_28 (fun h hq => ?_)
  obtain ⟨q28, g_q28, f_q28, fo, fx⟩ := hq
  have n_a_q28 : a ≠ q28 := gNew.ne g_q28 f_a
  have n_q28_a : q28 ≠ a := n_a_q28.symm
  have n_q5_q28 : q5 ≠ q28 := gNew.ne g_q28 f_q5
  have n_q28_q5 : q28 ≠ q5 := n_q5_q28.symm
  have n_q9_q28 : q9 ≠ q28 := gNew.ne g_q28 f_q9
  have n_q28_q9 : q28 ≠ q9 := n_q9_q28.symm
  have n_q17_q28 : q17 ≠ q28 := gNew.ne g_q28 f_q17
  have n_q28_q17 : q28 ≠ q17 := n_q17_q28.symm
  have n_q24_q28 : q24 ≠ q28 := gNew.ne g_q28 f_q24
  have n_q28_q24 : q28 ≠ q24 := n_q24_q28.symm
  have l_q28 : q24 < q28 := g_q28 _ _ f_q24
  have on_q28 : ∀ x c, h0 x = some c → x ≠ a → x ≠ q28 := fun x c hx hn => gNew.ne g_q28 (old x c hx hn)
  have f_a := fx a _ f_a n_a_q24
  have f_q5 := fx q5 _ f_q5 n_q5_q24
  have f_q9 := fx q9 _ f_q9 n_q9_q24
  have f_q17 := fx q17 _ f_q17 n_q17_q24
  have f_q24 := fo
  have old : ∀ x c, h0 x = some c → x ≠ a → h x = some c := fun x c hx hn => fx x c (old x c hx hn) (on_q24 x c hx hn)
  refine gw_putF (j := 6) (fs' := [.int 0, .int 0, .int 0, .ref q5, .ref q17, .int 0, .ref q24, .null, .null, .int 0, .int 0, .int 0, .int 0, .int 0, .int 0]) X cl_X3 lk_X3_27 rfl (by decide) f_a rfl hin rfl rfl rfl (Nat.le_of_ble_eq_true rfl) rfl dX3_init_31 (fun h f_a fx => ?_)
  have f_q5 := (fx q5 n_q5_a).trans f_q5
  have f_q9 := (fx q9 n_q9_a).trans f_q9
  have f_q17 := (fx q17 n_q17_a).trans f_q17
  have f_q24 := (fx q24 n_q24_a).trans f_q24
  have f_q28 := (fx q28 n_q28_a).trans f_q28
  have old : ∀ x c, h0 x = some c → x ≠ a → h x = some c := fun x c hx hn => (fx x hn).trans (old x c hx hn)
  refine g_aload_n X dX3_init_34 rfl ?_
  refine gw_new [.null, .int 0] X cl_X2 lc_X3_24 (fun j hj => by rcases j with _ | _ | j <;> first | rfl | omega) (by rw [RM]; exact Nat.le_of_ble_eq_true rfl) (by rw [RM]; exact Nat.le_of_ble_eq_true rfl) dX3_init_35 (fun q35 h g_q35 f_q35 fx => ?_)
  have l_q35 : q28 < q35 := g_q35 _ _ f_q28
  have n_a_q35 : a ≠ q35 := gNew.ne g_q35 f_a
  have n_q35_a : q35 ≠ a := n_a_q35.symm
  have n_q5_q35 : q5 ≠ q35 := gNew.ne g_q35 f_q5
  have n_q35_q5 : q35 ≠ q5 := n_q5_q35.symm
  have n_q9_q35 : q9 ≠ q35 := gNew.ne g_q35 f_q9
  have n_q35_q9 : q35 ≠ q9 := n_q9_q35.symm
  have n_q17_q35 : q17 ≠ q35 := gNew.ne g_q35 f_q17
  have n_q35_q17 : q35 ≠ q17 := n_q17_q35.symm
  have n_q24_q35 : q24 ≠ q35 := gNew.ne g_q35 f_q24
  have n_q35_q24 : q35 ≠ q24 := n_q24_q35.symm
  have n_q28_q35 : q28 ≠ q35 := gNew.ne g_q35 f_q28
  have n_q35_q28 : q35 ≠ q28 := n_q28_q35.symm
  have on_q35 : ∀ x c, h0 x = some c → x ≠ a → x ≠ q35 := fun x c hx hn => gNew.ne g_q35 (old x c hx hn)
  have f_a := (fx a n_a_q35).trans f_a
  have f_q5 := (fx q5 n_q5_q35).trans f_q5
  have f_q9 := (fx q9 n_q9_q35).trans f_q9
  have f_q17 := (fx q17 n_q17_q35).trans f_q17
  have f_q24 := (fx q24 n_q24_q35).trans f_q24
  have f_q28 := (fx q28 n_q28_q35).trans f_q28
  have old : ∀ x c, h0 x = some c → x ≠ a → h x = some c := fun x c hx hn => (fx x (on_q35 x c hx hn)).trans (old x c hx hn)
  refine g_dup X dX3_init_38 rfl ?_
  refine g_callIN X lm_X3_26 (k_X2 G f_q35) rfl rfl (Nat.le_of_ble_eq_true rfl) (by rw [RM]; exact ⟨Nat.le_of_ble_eq_true rfl, Nat.le_of_ble_eq_true rfl⟩) (by rw [RM]; exact ⟨Nat.le_of_ble_eq_true rfl, Nat.le_of_ble_eq_true rfl⟩) dX3_init_39 (fun h hq => ?_)
  obtain ⟨q39, g_q39, f_q39, fo, fx⟩ := hq
  have n_a_q39 : a ≠ q39 := gNew.ne g_q39 f_a
  have n_q39_a : q39 ≠ a := n_a_q39.symm
  have n_q5_q39 : q5 ≠ q39 := gNew.ne g_q39 f_q5
  have n_q39_q5 : q39 ≠ q5 := n_q5_q39.symm
  have n_q9_q39 : q9 ≠ q39 := gNew.ne g_q39 f_q9
  have n_q39_q9 : q39 ≠ q9 := n_q9_q39.symm
  have n_q17_q39 : q17 ≠ q39 := gNew.ne g_q39 f_q17
  have n_q39_q17 : q39 ≠ q17 := n_q17_q39.symm
  have n_q24_q39 : q24 ≠ q39 := gNew.ne g_q39 f_q24
  have n_q39_q24 : q39 ≠ q24 := n_q24_q39.symm
  have n_q28_q39 : q28 ≠ q39 := gNew.ne g_q39 f_q28
  have n_q39_q28 : q39 ≠ q28 := n_q28_q39.symm
  have n_q35_q39 : q35 ≠ q39 := gNew.ne g_q39 f_q35
  have n_q39_q35 : q39 ≠ q35 := n_q35_q39.symm
  have l_q39 : q35 < q39 := g_q39 _ _ f_q35
  have on_q39 : ∀ x c, h0 x = some c → x ≠ a → x ≠ q39 := fun x c hx hn => gNew.ne g_q39 (old x c hx hn)
  have f_a := fx a _ f_a n_a_q35
  have f_q5 := fx q5 _ f_q5 n_q5_q35
  have f_q9 := fx q9 _ f_q9 n_q9_q35
  have f_q17 := fx q17 _ f_q17 n_q17_q35
  have f_q24 := fx q24 _ f_q24 n_q24_q35
  have f_q28 := fx q28 _ f_q28 n_q28_q35
  have f_q35 := fo
  have old : ∀ x c, h0 x = some c → x ≠ a → h x = some c := fun x c hx hn => fx x c (old x c hx hn) (on_q35 x c hx hn)
  refine gw_putF (j := 7) (fs' := [.int 0, .int 0, .int 0, .ref q5, .ref q17, .int 0, .ref q24, .ref q35, .null, .int 0, .int 0, .int 0, .int 0, .int 0, .int 0]) X cl_X3 lk_X3_31 rfl (by decide) f_a rfl hin rfl rfl rfl (Nat.le_of_ble_eq_true rfl) rfl dX3_init_42 (fun h f_a fx => ?_)
  have f_q5 := (fx q5 n_q5_a).trans f_q5
  have f_q9 := (fx q9 n_q9_a).trans f_q9
  have f_q17 := (fx q17 n_q17_a).trans f_q17
  have f_q24 := (fx q24 n_q24_a).trans f_q24
  have f_q28 := (fx q28 n_q28_a).trans f_q28
  have f_q35 := (fx q35 n_q35_a).trans f_q35
  have f_q39 := (fx q39 n_q39_a).trans f_q39
  have old : ∀ x c, h0 x = some c → x ≠ a → h x = some c := fun x c hx hn => (fx x hn).trans (old x c hx hn)
  refine g_aload_n X dX3_init_45 rfl ?_
  refine gw_new [.null, .int 0] X cl_X2 lc_X3_24 (fun j hj => by rcases j with _ | _ | j <;> first | rfl | omega) (by rw [RM]; exact Nat.le_of_ble_eq_true rfl) (by rw [RM]; exact Nat.le_of_ble_eq_true rfl) dX3_init_46 (fun q46 h g_q46 f_q46 fx => ?_)
  have l_q46 : q39 < q46 := g_q46 _ _ f_q39
  have n_a_q46 : a ≠ q46 := gNew.ne g_q46 f_a
  have n_q46_a : q46 ≠ a := n_a_q46.symm
  have n_q5_q46 : q5 ≠ q46 := gNew.ne g_q46 f_q5
  have n_q46_q5 : q46 ≠ q5 := n_q5_q46.symm
  have n_q9_q46 : q9 ≠ q46 := gNew.ne g_q46 f_q9
  have n_q46_q9 : q46 ≠ q9 := n_q9_q46.symm
  have n_q17_q46 : q17 ≠ q46 := gNew.ne g_q46 f_q17
  have n_q46_q17 : q46 ≠ q17 := n_q17_q46.symm
  have n_q24_q46 : q24 ≠ q46 := gNew.ne g_q46 f_q24
  have n_q46_q24 : q46 ≠ q24 := n_q24_q46.symm
  have n_q28_q46 : q28 ≠ q46 := gNew.ne g_q46 f_q28
  have n_q46_q28 : q46 ≠ q28 := n_q28_q46.symm
  have n_q35_q46 : q35 ≠ q46 := gNew.ne g_q46 f_q35
  have n_q46_q35 : q46 ≠ q35 := n_q35_q46.symm
  have n_q39_q46 : q39 ≠ q46 := gNew.ne g_q46 f_q39
  have n_q46_q39 : q46 ≠ q39 := n_q39_q46.symm
  have on_q46 : ∀ x c, h0 x = some c → x ≠ a → x ≠ q46 := fun x c hx hn => gNew.ne g_q46 (old x c hx hn)
  have f_a := (fx a n_a_q46).trans f_a
  have f_q5 := (fx q5 n_q5_q46).trans f_q5
  have f_q9 := (fx q9 n_q9_q46).trans f_q9
  have f_q17 := (fx q17 n_q17_q46).trans f_q17
  have f_q24 := (fx q24 n_q24_q46).trans f_q24
  have f_q28 := (fx q28 n_q28_q46).trans f_q28
  have f_q35 := (fx q35 n_q35_q46).trans f_q35
  have f_q39 := (fx q39 n_q39_q46).trans f_q39
  have old : ∀ x c, h0 x = some c → x ≠ a → h x = some c := fun x c hx hn => (fx x (on_q46 x c hx hn)).trans (old x c hx hn)
  refine g_dup X dX3_init_49 rfl ?_
  refine g_callIN X lm_X3_26 (k_X2 G f_q46) rfl rfl (Nat.le_of_ble_eq_true rfl) (by rw [RM]; exact ⟨Nat.le_of_ble_eq_true rfl, Nat.le_of_ble_eq_true rfl⟩) (by rw [RM]; exact ⟨Nat.le_of_ble_eq_true rfl, Nat.le_of_ble_eq_true rfl⟩) dX3_init_50 (fun h hq => ?_)
  obtain ⟨q50, g_q50, f_q50, fo, fx⟩ := hq
  have n_a_q50 : a ≠ q50 := gNew.ne g_q50 f_a
  have n_q50_a : q50 ≠ a := n_a_q50.symm
  have n_q5_q50 : q5 ≠ q50 := gNew.ne g_q50 f_q5
  have n_q50_q5 : q50 ≠ q5 := n_q5_q50.symm
  have n_q9_q50 : q9 ≠ q50 := gNew.ne g_q50 f_q9
  have n_q50_q9 : q50 ≠ q9 := n_q9_q50.symm
  have n_q17_q50 : q17 ≠ q50 := gNew.ne g_q50 f_q17
  have n_q50_q17 : q50 ≠ q17 := n_q17_q50.symm
  have n_q24_q50 : q24 ≠ q50 := gNew.ne g_q50 f_q24
  have n_q50_q24 : q50 ≠ q24 := n_q24_q50.symm
  have n_q28_q50 : q28 ≠ q50 := gNew.ne g_q50 f_q28
  have n_q50_q28 : q50 ≠ q28 := n_q28_q50.symm
  have n_q35_q50 : q35 ≠ q50 := gNew.ne g_q50 f_q35
  have n_q50_q35 : q50 ≠ q35 := n_q35_q50.symm
  have n_q39_q50 : q39 ≠ q50 := gNew.ne g_q50 f_q39
  have n_q50_q39 : q50 ≠ q39 := n_q39_q50.symm
  have n_q46_q50 : q46 ≠ q50 := gNew.ne g_q50 f_q46
  have n_q50_q46 : q50 ≠ q46 := n_q46_q50.symm
  have l_q50 : q46 < q50 := g_q50 _ _ f_q46
  have on_q50 : ∀ x c, h0 x = some c → x ≠ a → x ≠ q50 := fun x c hx hn => gNew.ne g_q50 (old x c hx hn)
  have f_a := fx a _ f_a n_a_q46
  have f_q5 := fx q5 _ f_q5 n_q5_q46
  have f_q9 := fx q9 _ f_q9 n_q9_q46
  have f_q17 := fx q17 _ f_q17 n_q17_q46
  have f_q24 := fx q24 _ f_q24 n_q24_q46
  have f_q28 := fx q28 _ f_q28 n_q28_q46
  have f_q35 := fx q35 _ f_q35 n_q35_q46
  have f_q39 := fx q39 _ f_q39 n_q39_q46
  have f_q46 := fo
  have old : ∀ x c, h0 x = some c → x ≠ a → h x = some c := fun x c hx hn => fx x c (old x c hx hn) (on_q46 x c hx hn)
  refine gw_putF (j := 8) (fs' := [.int 0, .int 0, .int 0, .ref q5, .ref q17, .int 0, .ref q24, .ref q35, .ref q46, .int 0, .int 0, .int 0, .int 0, .int 0, .int 0]) X cl_X3 lk_X3_34 rfl (by decide) f_a rfl hin rfl rfl rfl (Nat.le_of_ble_eq_true rfl) rfl dX3_init_53 (fun h f_a fx => ?_)
  have f_q5 := (fx q5 n_q5_a).trans f_q5
  have f_q9 := (fx q9 n_q9_a).trans f_q9
  have f_q17 := (fx q17 n_q17_a).trans f_q17
  have f_q24 := (fx q24 n_q24_a).trans f_q24
  have f_q28 := (fx q28 n_q28_a).trans f_q28
  have f_q35 := (fx q35 n_q35_a).trans f_q35
  have f_q39 := (fx q39 n_q39_a).trans f_q39
  have f_q46 := (fx q46 n_q46_a).trans f_q46
  have f_q50 := (fx q50 n_q50_a).trans f_q50
  have old : ∀ x c, h0 x = some c → x ≠ a → h x = some c := fun x c hx hn => (fx x hn).trans (old x c hx hn)
  refine g_aload_n X dX3_init_56 rfl ?_
  refine g_iconst (v := (-1)) X dX3_init_57 (by decide) ?_
  refine gw_put (j := 9) (fs' := [.int 0, .int 0, .int 0, .ref q5, .ref q17, .int 0, .ref q24, .ref q35, .ref q46, .int (-1), .int 0, .int 0, .int 0, .int 0, .int 0]) X cl_X3 lk_X3_37 rfl (by decide) f_a rfl rfl rfl (Nat.le_of_ble_eq_true rfl) rfl dX3_init_58 (fun h f_a fx => ?_)
  have f_q5 := (fx q5 n_q5_a).trans f_q5
  have f_q9 := (fx q9 n_q9_a).trans f_q9
  have f_q17 := (fx q17 n_q17_a).trans f_q17
  have f_q24 := (fx q24 n_q24_a).trans f_q24
  have f_q28 := (fx q28 n_q28_a).trans f_q28
  have f_q35 := (fx q35 n_q35_a).trans f_q35
  have f_q39 := (fx q39 n_q39_a).trans f_q39
  have f_q46 := (fx q46 n_q46_a).trans f_q46
  have f_q50 := (fx q50 n_q50_a).trans f_q50
  have old : ∀ x c, h0 x = some c → x ≠ a → h x = some c := fun x c hx hn => (fx x hn).trans (old x c hx hn)
  refine g_aload_n X dX3_init_61 rfl ?_
  refine g_iload_n X dX3_init_62 rfl ?_
  refine gw_putF (j := 0) (fs' := [.int p1, .int 0, .int 0, .ref q5, .ref q17, .int 0, .ref q24, .ref q35, .ref q46, .int (-1), .int 0, .int 0, .int 0, .int 0, .int 0]) X cl_X3 lk_X3_41 rfl (by decide) f_a rfl hin rfl rfl rfl (Nat.le_of_ble_eq_true rfl) rfl dX3_init_63 (fun h f_a fx => ?_)
  have f_q5 := (fx q5 n_q5_a).trans f_q5
  have f_q9 := (fx q9 n_q9_a).trans f_q9
  have f_q17 := (fx q17 n_q17_a).trans f_q17
  have f_q24 := (fx q24 n_q24_a).trans f_q24
  have f_q28 := (fx q28 n_q28_a).trans f_q28
  have f_q35 := (fx q35 n_q35_a).trans f_q35
  have f_q39 := (fx q39 n_q39_a).trans f_q39
  have f_q46 := (fx q46 n_q46_a).trans f_q46
  have f_q50 := (fx q50 n_q50_a).trans f_q50
  have old : ∀ x c, h0 x = some c → x ≠ a → h x = some c := fun x c hx hn => (fx x hn).trans (old x c hx hn)
  refine g_aload_n X dX3_init_66 rfl ?_
  refine g_iload_n X dX3_init_67 rfl ?_
  refine gw_putF (j := 1) (fs' := [.int p1, .int p2, .int 0, .ref q5, .ref q17, .int 0, .ref q24, .ref q35, .ref q46, .int (-1), .int 0, .int 0, .int 0, .int 0, .int 0]) X cl_X3 lk_X3_44 rfl (by decide) f_a rfl hin rfl rfl rfl (Nat.le_of_ble_eq_true rfl) rfl dX3_init_68 (fun h f_a fx => ?_)
  have f_q5 := (fx q5 n_q5_a).trans f_q5
  have f_q9 := (fx q9 n_q9_a).trans f_q9
  have f_q17 := (fx q17 n_q17_a).trans f_q17
  have f_q24 := (fx q24 n_q24_a).trans f_q24
  have f_q28 := (fx q28 n_q28_a).trans f_q28
  have f_q35 := (fx q35 n_q35_a).trans f_q35
  have f_q39 := (fx q39 n_q39_a).trans f_q39
  have f_q46 := (fx q46 n_q46_a).trans f_q46
  have f_q50 := (fx q50 n_q50_a).trans f_q50
  have old : ∀ x c, h0 x = some c → x ≠ a → h x = some c := fun x c hx hn => (fx x hn).trans (old x c hx hn)
  refine g_aload_n X dX3_init_71 rfl ?_
  refine g_iload_n X dX3_init_72 rfl ?_
  refine gw_putF (j := 2) (fs' := [.int p1, .int p2, .int p3, .ref q5, .ref q17, .int 0, .ref q24, .ref q35, .ref q46, .int (-1), .int 0, .int 0, .int 0, .int 0, .int 0]) X cl_X3 lk_X3_47 rfl (by decide) f_a rfl hin rfl rfl rfl (Nat.le_of_ble_eq_true rfl) rfl dX3_init_73 (fun h f_a fx => ?_)
  have f_q5 := (fx q5 n_q5_a).trans f_q5
  have f_q9 := (fx q9 n_q9_a).trans f_q9
  have f_q17 := (fx q17 n_q17_a).trans f_q17
  have f_q24 := (fx q24 n_q24_a).trans f_q24
  have f_q28 := (fx q28 n_q28_a).trans f_q28
  have f_q35 := (fx q35 n_q35_a).trans f_q35
  have f_q39 := (fx q39 n_q39_a).trans f_q39
  have f_q46 := (fx q46 n_q46_a).trans f_q46
  have f_q50 := (fx q50 n_q50_a).trans f_q50
  have old : ∀ x c, h0 x = some c → x ≠ a → h x = some c := fun x c hx hn => (fx x hn).trans (old x c hx hn)
  refine g_returnI X E dX3_init_76 (Nat.le_of_ble_eq_true rfl) (Nat.le_of_ble_eq_true rfl) ?_
  exact ⟨_, _, _, _, _, _, _, _, _, ⟨⟨l_q5, l_q9, l_q17, l_q24, l_q28, l_q35, l_q39, l_q46, l_q50⟩, f_a, f_q5, f_q9, f_q17, f_q24, f_q28, f_q35, f_q39, f_q46, f_q50⟩, hh0 ▸ old⟩
set_option maxHeartbeats 4000000 in
set_option maxRecDepth 100000 in
theorem k_X6 (G : gG Z) {a : Nat} (f_a : h a = some (.inr (8, [.null, .int 0, .null, .int 0, .null, .int 0, .int 0, .int 0, .int 0, .int 0, .long 0, .long 0, .long 0]))) : gMetI Z yX6_init cX6_init 1 1 3 72 [.ref a] h (fun h2 => ∃ q6 q15 q23, (a < q6 ∧ q6 < q15 ∧ q15 < q23) ∧ h2 a = some (.inr (8, [.ref q6, .int 0, .ref q15, .int 0, .ref q23, .int 0, .int 0, .int 0, .int 0, .int 0, .long 0, .long 0, .long 0])) ∧ h2 q6 = some (.inl (Z.2.2.2.1 0, 4, gRow (fun _ => none))) ∧ h2 q15 = some (.inl (Z.2.2.2.1 1, 8, .inl (fun _ => 0))) ∧ h2 q23 = some (.inl (Z.2.2.2.1 2, 60, gRow (fun _ => none))) ∧ ∀ x c, h x = some c → x ≠ a → h2 x = some c) := by
  refine g_enterI (lv := [(0, .ref a)]) G.2 (by decide +kernel) rfl (Nat.le_of_ble_eq_true rfl) rfl (fun Γ X hin E RM => ?_)
  obtain ⟨h0, hh0⟩ : ∃ h0, h0 = h := ⟨_, rfl⟩
  have old : ∀ x c, h0 x = some c → x ≠ a → h x = some c := fun x c hx _ => by rw [← hh0]; exact hx
  refine g_aload_n X dX6_init_0 rfl ?_
  refine g_objInit X lo_X6 lo_in lo_co (by rw [RM]; exact Nat.le_of_ble_eq_true rfl) (by rw [RM]; exact Nat.le_of_ble_eq_true rfl) dX6_init_1 ?_
  refine g_aload_n X dX6_init_4 rfl ?_
  refine g_iconst (v := 4) X dX6_init_5 (by decide) ?_
  refine gw_newq (N := 4) X G.t0 la_Ride (by decide) lc_X6_9 (by decide) (by decide) (by decide) (by rw [RM]; exact Nat.le_of_ble_eq_true rfl) (by rw [RM]; exact Nat.le_of_ble_eq_true rfl) dX6_init_6 (fun q6 h g_q6 f_q6 fx => ?_)
  have l_q6 : a < q6 := g_q6 _ _ f_a
  have n_a_q6 : a ≠ q6 := gNew.ne g_q6 f_a
  have n_q6_a : q6 ≠ a := n_a_q6.symm
  have on_q6 : ∀ x c, h0 x = some c → x ≠ a → x ≠ q6 := fun x c hx hn => gNew.ne g_q6 (old x c hx hn)
  have f_a := (fx a n_a_q6).trans f_a
  have old : ∀ x c, h0 x = some c → x ≠ a → h x = some c := fun x c hx hn => (fx x (on_q6 x c hx hn)).trans (old x c hx hn)
  refine gw_putF (j := 0) (fs' := [.ref q6, .int 0, .null, .int 0, .null, .int 0, .int 0, .int 0, .int 0, .int 0, .long 0, .long 0, .long 0]) X cl_X6 lk_X6_11 rfl (by decide) f_a rfl hin rfl rfl rfl (Nat.le_of_ble_eq_true rfl) rfl dX6_init_9 (fun h f_a fx => ?_)
  have f_q6 := (fx q6 n_q6_a).trans f_q6
  have old : ∀ x c, h0 x = some c → x ≠ a → h x = some c := fun x c hx hn => (fx x hn).trans (old x c hx hn)
  refine g_aload_n X dX6_init_12 rfl ?_
  refine g_bipush (v := 8) X dX6_init_13 (by decide) ?_
  refine gw_newi (N := 8) X G.t1 (by decide) (by decide) (by decide) (by rw [RM]; exact Nat.le_of_ble_eq_true rfl) (by rw [RM]; exact Nat.le_of_ble_eq_true rfl) dX6_init_15 (fun q15 h g_q15 f_q15 fx => ?_)
  have l_q15 : q6 < q15 := g_q15 _ _ f_q6
  have n_a_q15 : a ≠ q15 := gNew.ne g_q15 f_a
  have n_q15_a : q15 ≠ a := n_a_q15.symm
  have n_q6_q15 : q6 ≠ q15 := gNew.ne g_q15 f_q6
  have n_q15_q6 : q15 ≠ q6 := n_q6_q15.symm
  have on_q15 : ∀ x c, h0 x = some c → x ≠ a → x ≠ q15 := fun x c hx hn => gNew.ne g_q15 (old x c hx hn)
  have f_a := (fx a n_a_q15).trans f_a
  have f_q6 := (fx q6 n_q6_q15).trans f_q6
  have old : ∀ x c, h0 x = some c → x ≠ a → h x = some c := fun x c hx hn => (fx x (on_q15 x c hx hn)).trans (old x c hx hn)
  refine gw_putF (j := 2) (fs' := [.ref q6, .int 0, .ref q15, .int 0, .null, .int 0, .int 0, .int 0, .int 0, .int 0, .long 0, .long 0, .long 0]) X cl_X6 lk_X6_15 rfl (by decide) f_a rfl hin rfl rfl rfl (Nat.le_of_ble_eq_true rfl) rfl dX6_init_17 (fun h f_a fx => ?_)
  have f_q6 := (fx q6 n_q6_a).trans f_q6
  have f_q15 := (fx q15 n_q15_a).trans f_q15
  have old : ∀ x c, h0 x = some c → x ≠ a → h x = some c := fun x c hx hn => (fx x hn).trans (old x c hx hn)
  refine g_aload_n X dX6_init_20 rfl ?_
  refine g_bipush (v := 60) X dX6_init_21 (by decide) ?_
  refine gw_newq (N := 60) X G.t2 la_Guest (by decide) lc_X6_19 (by decide) (by decide) (by decide) (by rw [RM]; exact Nat.le_of_ble_eq_true rfl) (by rw [RM]; exact Nat.le_of_ble_eq_true rfl) dX6_init_23 (fun q23 h g_q23 f_q23 fx => ?_)
  have l_q23 : q15 < q23 := g_q23 _ _ f_q15
  have n_a_q23 : a ≠ q23 := gNew.ne g_q23 f_a
  have n_q23_a : q23 ≠ a := n_a_q23.symm
  have n_q6_q23 : q6 ≠ q23 := gNew.ne g_q23 f_q6
  have n_q23_q6 : q23 ≠ q6 := n_q6_q23.symm
  have n_q15_q23 : q15 ≠ q23 := gNew.ne g_q23 f_q15
  have n_q23_q15 : q23 ≠ q15 := n_q15_q23.symm
  have on_q23 : ∀ x c, h0 x = some c → x ≠ a → x ≠ q23 := fun x c hx hn => gNew.ne g_q23 (old x c hx hn)
  have f_a := (fx a n_a_q23).trans f_a
  have f_q6 := (fx q6 n_q6_q23).trans f_q6
  have f_q15 := (fx q15 n_q15_q23).trans f_q15
  have old : ∀ x c, h0 x = some c → x ≠ a → h x = some c := fun x c hx hn => (fx x (on_q23 x c hx hn)).trans (old x c hx hn)
  refine gw_putF (j := 4) (fs' := [.ref q6, .int 0, .ref q15, .int 0, .ref q23, .int 0, .int 0, .int 0, .int 0, .int 0, .long 0, .long 0, .long 0]) X cl_X6 lk_X6_21 rfl (by decide) f_a rfl hin rfl rfl rfl (Nat.le_of_ble_eq_true rfl) rfl dX6_init_26 (fun h f_a fx => ?_)
  have f_q6 := (fx q6 n_q6_a).trans f_q6
  have f_q15 := (fx q15 n_q15_a).trans f_q15
  have f_q23 := (fx q23 n_q23_a).trans f_q23
  have old : ∀ x c, h0 x = some c → x ≠ a → h x = some c := fun x c hx hn => (fx x hn).trans (old x c hx hn)
  refine g_returnI X E dX6_init_29 (Nat.le_of_ble_eq_true rfl) (Nat.le_of_ble_eq_true rfl) ?_
  exact ⟨_, _, _, ⟨l_q6, l_q15, l_q23⟩, f_a, f_q6, f_q15, f_q23, hh0 ▸ old⟩
end GALLOC
