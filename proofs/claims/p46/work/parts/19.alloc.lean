/-! new objects: rows over a heap that is not named, constructors, and how a state grows -/
section GALLOC
variable {Z : gEnv} {Γ : gCtx} {cc : ByteArray} {own : String} {nL : Nat} {ret : Option FieldType} {h : gH} {k n pc : Nat} {lv lv' : List (Nat × Value)} {st st' : List Value} {ad : gAd} {P : gP}
theorem gr_put {ci j N index a : Nat} {C : String} {T : u_T} {ty : Nat → FieldType} {fs fs' : List Value} {v : Value} (X : gOK Z Γ cc own nL ret) (K : gCls ci C T ty N) (hlk : Cond.fieldLink own index C (T j).2.1 (T j).2.2.1 ∈ gT) (hT : (T j).1 = C) (hj : j < N)
    (ha : h a = some (.inr (ci, fs))) (hfin : (T j).2.2.2 = false) (hn : narrow (ty j) v = v) (hfit : fits (ty j) v = true) (hlen : j < fs.length) (hs : fs.set j v = fs') (d : decode cc pc = .ok (.putfield index, 3))
    (kk : ∀ h' : gH, h' a = some (.inr (ci, fs')) → (∀ x, x ≠ a → h' x = h x) → GJ Z Γ h' k n (pc + 3) lv st) : GJ Z Γ h k n pc lv (v :: .ref a :: st) := g_put X K hlk hT hj ha hfin hn hfit hlen d (kk _ (by rw [← hs]; exact if_pos rfl) (fun x hx => if_neg hx))
theorem gr_putF {ci j N index a : Nat} {C : String} {T : u_T} {ty : Nat → FieldType} {fs fs' : List Value} {v : Value} (X : gOK Z Γ cc own nL ret) (K : gCls ci C T ty N) (hlk : Cond.fieldLink own index C (T j).2.1 (T j).2.2.1 ∈ gT) (hT : (T j).1 = C) (hj : j < N)
    (ha : h a = some (.inr (ci, fs))) (hfin : (T j).2.2.2 = true) (hin : Γ.2.2.2.2.2.2.2.1.name = "<init>") (hown : C = own) (hn : narrow (ty j) v = v) (hfit : fits (ty j) v = true) (hlen : j < fs.length) (hs : fs.set j v = fs') (d : decode cc pc = .ok (.putfield index, 3))
    (kk : ∀ h' : gH, h' a = some (.inr (ci, fs')) → (∀ x, x ≠ a → h' x = h x) → GJ Z Γ h' k n (pc + 3) lv st) : GJ Z Γ h k n pc lv (v :: .ref a :: st) := g_putF X K hlk hT hj ha hfin hin hown hn hfit hlen d (kk _ (by rw [← hs]; exact if_pos rfl) (fun x hx => if_neg hx))
theorem gr_new {ci N index : Nat} {C : String} {T : u_T} {ty : Nat → FieldType} (fs : List Value) (X : gOK Z Γ cc own nL ret) (K : gCls ci C T ty N) (hlk : Cond.classLink own index C ∈ gT) (hfs : ∀ j, j < N → defaultValue (ty j) = vp_V fs j) (hc : k + 1 ≤ Γ.2.2.1.cells) (hs : n + N ≤ Γ.2.2.1.slots) (d : decode cc pc = .ok (.new index, 3))
    (kk : ∀ (q : Nat) (h' : gH), gNew h q → h' q = some (.inr (ci, fs)) → (∀ x, x ≠ q → h' x = h x) → GJ Z Γ h' (k + 1) (n + N) (pc + 3) lv (.ref q :: st)) : GJ Z Γ h k n pc lv st := g_new fs X K hlk hfs hc hs d (fun q h1 _ => kk q _ h1 (if_pos rfl) (fun x hx => if_neg hx))
theorem gr_newi {t N : Nat} {x : Int32} (X : gOK Z Γ cc own nL ret) (ht : gTy Z t .int) (hx : ¬ x < 0) (hN : x.toNatClampNeg = N) (hb : N * 4 ≤ 536870912) (hc : k + 1 ≤ Γ.2.2.1.cells) (hs : n + N ≤ Γ.2.2.1.slots) (d : decode cc pc = .ok (.newarray .int, 2))
    (kk : ∀ (q : Nat) (h' : gH), gNew h q → h' q = some (.inl (Z.2.2.2.1 t, N, .inl (fun _ => 0))) → (∀ x, x ≠ q → h' x = h x) → GJ Z Γ h' (k + 1) (n + N) (pc + 2) lv (.ref q :: st)) : GJ Z Γ h k n pc lv (.int x :: st) := g_newi X ht la_int hx hN hb hc hs d (fun q h1 _ => kk q _ h1 (if_pos rfl) (fun x hx => if_neg hx))
theorem gr_newq {t N index : Nat} {C : String} {x : Int32} (X : gOK Z Γ cc own nL ret) (ht : gTy Z t (.object C)) (harr : Cond.arrayOver (.object C) ∈ tables_1) (hC : C ∈ gArs) (hlk : Cond.classLink own index C ∈ gT) (hx : ¬ x < 0) (hN : x.toNatClampNeg = N) (hb : N * 4 ≤ 536870912) (hc : k + 1 ≤ Γ.2.2.1.cells) (hs : n + N ≤ Γ.2.2.1.slots) (d : decode cc pc = .ok (.anewarray index, 3))
    (kk : ∀ (q : Nat) (h' : gH), gNew h q → h' q = some (.inl (Z.2.2.2.1 t, N, gRow (fun _ => none))) → (∀ x, x ≠ q → h' x = h x) → GJ Z Γ h' (k + 1) (n + N) (pc + 3) lv (.ref q :: st)) : GJ Z Γ h k n pc lv (.int x :: st) := g_newq X ht harr (X.stt.2.2.2.2.2.1 C hC) hlk hx hN hb hc hs d (fun q h1 _ => kk q _ h1 (if_pos rfl) (fun x hx => if_neg hx))
theorem gr_aast {a t m v ci N j : Nat} {C : String} {T : u_T} {ty : Nat → FieldType} {f : Nat → Option Nat} {fs : List Value} {i : Int32} (X : gOK Z Γ cc own nL ret) (K : gCls ci C T ty N) (ht : gTy Z t (.object C)) (ha : h a = some (.inl (Z.2.2.2.1 t, m, gRow f))) (hvv : h v = some (.inr (ci, fs))) (hi : i = nI j) (hj : j < m) (hm : m < 2 ^ 31) (d : decode cc pc = .ok (.aastore, 1))
    (kk : ∀ h' : gH, h' a = some (.inl (Z.2.2.2.1 t, m, gRow (va_up f j (some v)))) → (∀ x, x ≠ a → h' x = h x) → GJ Z Γ h' k n (pc + 1) lv st) : GJ Z Γ h k n pc lv (.ref v :: .int i :: .ref a :: st) := by
  subst hi
  refine g_aast X K ht ha hvv (vp_in_nI hj hm) d ?_
  rw [nI_clamp (Nat.lt_trans hj hm)]
  exact kk _ (if_pos rfl) (fun x hx => if_neg hx)
theorem gr_geti {ci j N index a : Nat} {C : String} {T : u_T} {ty : Nat → FieldType} {fs : List Value} {v : Int32} (X : gOK Z Γ cc own nL ret) (K : gCls ci C T ty N) (hlk : Cond.fieldLink own index C (T j).2.1 (T j).2.2.1 ∈ gT) (hT : (T j).1 = C) (hj : j < N)
    (ha : h a = some (.inr (ci, fs))) (hv : fs[j]? = some (.int v)) (d : decode cc pc = .ok (.getfield index, 3)) (kk : ∀ x : Int32, x = v → GJ Z Γ h k n (pc + 3) lv (.int x :: st)) : GJ Z Γ h k n pc lv (.ref a :: st) := g_get X K hlk hT hj ha hv d (kk v rfl)
/-- the state grows by objects of N -/
theorem gRep.grow {ad' : gAd} {P' : gP} {h' : gH} (hR : gRep Z ad P h) (N : Nat → Nat → Nat → Prop)
    (h1 : ∀ k r i, gLive P' k r i → ¬ N k r i → gLive P k r i ∧ ad' k r i = ad k r i)
    (h2 : ∀ k r i, gLive P' k r i → h' (ad' k r i) = some (gCell Z.2.2.2.1 ad' P' k r i))
    (h3 : ∀ k r i k' r' i', gLive P k r i → gLive P' k' r' i' → N k' r' i' → ad k r i ≠ ad' k' r' i')
    (h4 : ∀ k r i k' r' i', N k r i → N k' r' i' → ad' k r i = ad' k' r' i' → k = k' ∧ r = r' ∧ i = i') : gRep Z ad' P' h' := by
  refine ⟨h2, fun k r i k' r' i' l1 l2 e => ?_⟩
  by_cases n1 : N k r i
  · by_cases n2 : N k' r' i'
    · exact h4 _ _ _ _ _ _ n1 n2 e
    · obtain ⟨q1, q2⟩ := h1 _ _ _ l2 n2
      exact absurd (q2.symm.trans e.symm) (h3 _ _ _ _ _ _ q1 l1 n1)
  · obtain ⟨q1, q2⟩ := h1 _ _ _ l1 n1
    by_cases n2 : N k' r' i'
    · exact absurd (q2.symm.trans e) (h3 _ _ _ _ _ _ q1 l2 n2)
    · obtain ⟨q3, q4⟩ := h1 _ _ _ l2 n2
      exact hR.2 _ _ _ _ _ _ q1 q3 (q2.symm.trans (e.trans q4))
theorem gRep.ext {h' : gH} (hR : gRep Z ad P h) (hx : ∀ a x, h a = some x → h' a = some x) : gRep Z ad P h' := ⟨fun k r i hl => hx _ _ (hR.1 k r i hl), hR.2⟩
theorem gRep.lt {q : Nat} (hR : gRep Z ad P h) (hq : gNew h q) {k r i : Nat} (hl : gLive P k r i) : ad k r i < q := hq _ _ (hR.1 k r i hl)
def adU (ad : gAd) (k0 r0 i0 a : Nat) : gAd := fun k r i => if k = k0 ∧ r = r0 ∧ i = i0 then a else ad k r i
theorem adU_k {k0 r0 i0 a k r i : Nat} (h : k ≠ k0) : adU ad k0 r0 i0 a k r i = ad k r i := if_neg (fun hh => h hh.1)
theorem adU_s {k0 r0 i0 a : Nat} : adU ad k0 r0 i0 a k0 r0 i0 = a := if_pos ⟨rfl, rfl, rfl⟩
theorem adU_n {k0 r0 i0 a k r i : Nat} (h : ¬ (k = k0 ∧ r = r0 ∧ i = i0)) : adU ad k0 r0 i0 a k r i = ad k r i := if_neg h
def uO (P : gP) (k r i : Nat) (f : Nat → Int32) : gP := (fun k' r' i' s' => if k' = k ∧ r' = r ∧ i' = i then f s' else P.1 k' r' i' s', P.2)
theorem pI_uO (P : gP) (k0 r0 i0 : Nat) (f : Nat → Int32) (k r i s : Nat) : pI (uO P k0 r0 i0 f) k r i s = if k = k0 ∧ r = r0 ∧ i = i0 then f s else pI P k r i s := rfl
def fAddB (P : gP) (r : Nat) (a b c d : Int32) : gP := unB (uO P 0 r (pnB P r) (fun s => [a, b, c, d, 116, 116].getD s 0)) r (pnB P r + 1)
def fEnter (P : gP) (m a b : Int32) : gP := uJ (unG (uGL (uO P 1 (pnG P) 0 (fun s => [m, a, b, 0, 0, 0, 112, -1, 0, 0, 0].getD s 0)) (pnG P) none) (pnG P + 1)) 10 (pJ P 10 + m.toInt64)
def fAddT (P : gP) (r : Nat) (s : Int32) : gP := unT (sRD (uO P 5 r (pnT P r) (fun j => [s, 0, 0, 0, 0, 115, 1, 0, 0].getD j 0)) r (pnT P r) (fun _ => none)) r (pnT P r + 1)
def fAddR (P : gP) (a b c : Int32) : gP :=
  let r := pnR P
  unR (unT (unB (sPL (sPL (sPL (uI (uI (uI (uI (uO P 3 r 0 (fun j => [a, b, c, 0, 0, 0, 0, 0, 0, -1, 0, 0, 0, 0, 0].getD j 0)) 4 r 0 2 0) 2 r 0 1 0) 2 r 1 1 0) 2 r 2 1 0) r 0 (fun _ => none)) r 1 (fun _ => none)) r 2 (fun _ => none)) r 0) r 0) (r + 1)
set_option maxHeartbeats 4000000 in
set_option maxRecDepth 100000 in
theorem k_X0 (G : gG Z) {a : Nat} {p1 p2 p3 p4 : Int32} (hk : gChr p1) (f_a : h a = some (.inr (2, [.int 0, .int 0, .int 0, .int 0, .int 0, .int 0]))) : gMetI Z yX0_init cX0_init 5 1 0 0 [.ref a, .int p1, .int p2, .int p3, .int p4] h (fun h2 => h2 a = some (.inr (2, [.int p1, .int p2, .int p3, .int p4, .int 116, .int 116])) ∧ ∀ x c, h x = some c → x ≠ a → h2 x = some c) := by
  refine g_enterI (lv := [(0, .ref a), (1, .int p1), (2, .int p2), (3, .int p3), (4, .int p4)]) G.2 (by decide +kernel) rfl (Nat.le_of_ble_eq_true rfl) rfl (fun Γ X hin E RM => ?_)
  obtain ⟨h0, hh0⟩ : ∃ h0, h0 = h := ⟨_, rfl⟩
  have old : ∀ x c, h0 x = some c → x ≠ a → h x = some c := fun x c hx _ => by rw [← hh0]; exact hx
  refine g_aload_n X dX0_init_0 rfl ?_
  refine g_objInit X lo_X0 lo_in lo_co (by rw [RM]; exact Nat.le_of_ble_eq_true rfl) (by rw [RM]; exact Nat.le_of_ble_eq_true rfl) dX0_init_1 ?_
  refine g_aload_n X dX0_init_4 rfl ?_
  refine g_bipush (v := 116) X dX0_init_5 (by decide) ?_
  refine gr_put (j := 4) X cl_X0 lk_X0_9 rfl (by decide) f_a rfl (by decide) (by decide) (Nat.le_of_ble_eq_true rfl) (rfl : _ = [.int 0, .int 0, .int 0, .int 0, .int 116, .int 0]) dX0_init_7 (fun h f_a fx => ?_)
  have old : ∀ x c, h0 x = some c → x ≠ a → h x = some c := fun x c hx hn => (fx x hn).trans (old x c hx hn)
  refine g_aload_n X dX0_init_10 rfl ?_
  refine g_bipush (v := 116) X dX0_init_11 (by decide) ?_
  refine gr_put (j := 5) X cl_X0 lk_X0_15 rfl (by decide) f_a rfl (by decide) (by decide) (Nat.le_of_ble_eq_true rfl) (rfl : _ = [.int 0, .int 0, .int 0, .int 0, .int 116, .int 116]) dX0_init_13 (fun h f_a fx => ?_)
  have old : ∀ x c, h0 x = some c → x ≠ a → h x = some c := fun x c hx hn => (fx x hn).trans (old x c hx hn)
  refine g_aload_n X dX0_init_16 rfl ?_
  refine g_iload_n X dX0_init_17 rfl ?_
  refine gr_putF (j := 0) X cl_X0 lk_X0_18 rfl (by decide) f_a rfl hin rfl hk.1 hk.2 (Nat.le_of_ble_eq_true rfl) (rfl : _ = [.int p1, .int 0, .int 0, .int 0, .int 116, .int 116]) dX0_init_18 (fun h f_a fx => ?_)
  have old : ∀ x c, h0 x = some c → x ≠ a → h x = some c := fun x c hx hn => (fx x hn).trans (old x c hx hn)
  refine g_aload_n X dX0_init_21 rfl ?_
  refine g_iload_n X dX0_init_22 rfl ?_
  refine gr_putF (j := 1) X cl_X0 lk_X0_21 rfl (by decide) f_a rfl hin rfl rfl rfl (Nat.le_of_ble_eq_true rfl) (rfl : _ = [.int p1, .int p2, .int 0, .int 0, .int 116, .int 116]) dX0_init_23 (fun h f_a fx => ?_)
  have old : ∀ x c, h0 x = some c → x ≠ a → h x = some c := fun x c hx hn => (fx x hn).trans (old x c hx hn)
  refine g_aload_n X dX0_init_26 rfl ?_
  refine g_iload_n X dX0_init_27 rfl ?_
  refine gr_putF (j := 2) X cl_X0 lk_X0_25 rfl (by decide) f_a rfl hin rfl rfl rfl (Nat.le_of_ble_eq_true rfl) (rfl : _ = [.int p1, .int p2, .int p3, .int 0, .int 116, .int 116]) dX0_init_28 (fun h f_a fx => ?_)
  have old : ∀ x c, h0 x = some c → x ≠ a → h x = some c := fun x c hx hn => (fx x hn).trans (old x c hx hn)
  refine g_aload_n X dX0_init_31 rfl ?_
  refine g_iload X dX0_init_32 rfl ?_
  refine gr_putF (j := 3) X cl_X0 lk_X0_28 rfl (by decide) f_a rfl hin rfl rfl rfl (Nat.le_of_ble_eq_true rfl) (rfl : _ = [.int p1, .int p2, .int p3, .int p4, .int 116, .int 116]) dX0_init_34 (fun h f_a fx => ?_)
  have old : ∀ x c, h0 x = some c → x ≠ a → h x = some c := fun x c hx hn => (fx x hn).trans (old x c hx hn)
  refine g_returnI X E dX0_init_37 (Nat.le_of_ble_eq_true rfl) (Nat.le_of_ble_eq_true rfl) ?_
  exact ⟨f_a, hh0 ▸ old⟩
set_option maxHeartbeats 4000000 in
set_option maxRecDepth 100000 in
theorem k_X1 (G : gG Z) {a : Nat} {p1 p2 p3 : Int32} (f_a : h a = some (.inr (3, [.int 0, .int 0, .int 0, .int 0, .int 0, .int 0, .int 0, .int 0, .int 0, .null, .int 0]))) : gMetI Z yX1_init cX1_init 4 1 0 0 [.ref a, .int p1, .int p2, .int p3] h (fun h2 => h2 a = some (.inr (3, [.int p1, .int p2, .int p3, .int 0, .int 0, .int 0, .int 112, .int (-1), .int 0, .null, .int 0])) ∧ ∀ x c, h x = some c → x ≠ a → h2 x = some c) := by
  refine g_enterI (lv := [(0, .ref a), (1, .int p1), (2, .int p2), (3, .int p3)]) G.2 (by decide +kernel) rfl (Nat.le_of_ble_eq_true rfl) rfl (fun Γ X hin E RM => ?_)
  obtain ⟨h0, hh0⟩ : ∃ h0, h0 = h := ⟨_, rfl⟩
  have old : ∀ x c, h0 x = some c → x ≠ a → h x = some c := fun x c hx _ => by rw [← hh0]; exact hx
  refine g_aload_n X dX1_init_0 rfl ?_
  refine g_objInit X lo_X1 lo_in lo_co (by rw [RM]; exact Nat.le_of_ble_eq_true rfl) (by rw [RM]; exact Nat.le_of_ble_eq_true rfl) dX1_init_1 ?_
  refine g_aload_n X dX1_init_4 rfl ?_
  refine g_bipush (v := 112) X dX1_init_5 (by decide) ?_
  refine gr_put (j := 6) X cl_X1 lk_X1_9 rfl (by decide) f_a rfl (by decide) (by decide) (Nat.le_of_ble_eq_true rfl) (rfl : _ = [.int 0, .int 0, .int 0, .int 0, .int 0, .int 0, .int 112, .int 0, .int 0, .null, .int 0]) dX1_init_7 (fun h f_a fx => ?_)
  have old : ∀ x c, h0 x = some c → x ≠ a → h x = some c := fun x c hx hn => (fx x hn).trans (old x c hx hn)
  refine g_aload_n X dX1_init_10 rfl ?_
  refine g_iconst (v := (-1)) X dX1_init_11 (by decide) ?_
  refine gr_put (j := 7) X cl_X1 lk_X1_15 rfl (by decide) f_a rfl rfl rfl (Nat.le_of_ble_eq_true rfl) (rfl : _ = [.int 0, .int 0, .int 0, .int 0, .int 0, .int 0, .int 112, .int (-1), .int 0, .null, .int 0]) dX1_init_12 (fun h f_a fx => ?_)
  have old : ∀ x c, h0 x = some c → x ≠ a → h x = some c := fun x c hx hn => (fx x hn).trans (old x c hx hn)
  refine g_aload_n X dX1_init_15 rfl ?_
  refine g_iload_n X dX1_init_16 rfl ?_
  refine gr_put (j := 0) X cl_X1 lk_X1_19 rfl (by decide) f_a rfl rfl rfl (Nat.le_of_ble_eq_true rfl) (rfl : _ = [.int p1, .int 0, .int 0, .int 0, .int 0, .int 0, .int 112, .int (-1), .int 0, .null, .int 0]) dX1_init_17 (fun h f_a fx => ?_)
  have old : ∀ x c, h0 x = some c → x ≠ a → h x = some c := fun x c hx hn => (fx x hn).trans (old x c hx hn)
  refine g_aload_n X dX1_init_20 rfl ?_
  refine g_iload_n X dX1_init_21 rfl ?_
  refine gr_putF (j := 1) X cl_X1 lk_X1_22 rfl (by decide) f_a rfl hin rfl rfl rfl (Nat.le_of_ble_eq_true rfl) (rfl : _ = [.int p1, .int p2, .int 0, .int 0, .int 0, .int 0, .int 112, .int (-1), .int 0, .null, .int 0]) dX1_init_22 (fun h f_a fx => ?_)
  have old : ∀ x c, h0 x = some c → x ≠ a → h x = some c := fun x c hx hn => (fx x hn).trans (old x c hx hn)
  refine g_aload_n X dX1_init_25 rfl ?_
  refine g_iload_n X dX1_init_26 rfl ?_
  refine gr_putF (j := 2) X cl_X1 lk_X1_25 rfl (by decide) f_a rfl hin rfl rfl rfl (Nat.le_of_ble_eq_true rfl) (rfl : _ = [.int p1, .int p2, .int p3, .int 0, .int 0, .int 0, .int 112, .int (-1), .int 0, .null, .int 0]) dX1_init_27 (fun h f_a fx => ?_)
  have old : ∀ x c, h0 x = some c → x ≠ a → h x = some c := fun x c hx hn => (fx x hn).trans (old x c hx hn)
  refine g_returnI X E dX1_init_30 (Nat.le_of_ble_eq_true rfl) (Nat.le_of_ble_eq_true rfl) ?_
  exact ⟨f_a, hh0 ▸ old⟩
set_option maxHeartbeats 4000000 in
set_option maxRecDepth 100000 in
theorem k_X2 (G : gG Z) {a : Nat} (f_a : h a = some (.inr (4, [.null, .int 0]))) : gMetI Z yX2_init cX2_init 1 1 1 60 [.ref a] h (fun h2 => ∃ q, gNew h q ∧ h2 q = some (.inl (Z.2.2.2.1 2, 60, gRow (fun _ => none))) ∧ h2 a = some (.inr (4, [.ref q, .int 0])) ∧ ∀ x c, h x = some c → x ≠ a → h2 x = some c) := by
  refine g_enterI (lv := [(0, .ref a)]) G.2 (by decide +kernel) rfl (Nat.le_of_ble_eq_true rfl) rfl (fun Γ X hin E RM => ?_)
  obtain ⟨h0, hh0⟩ : ∃ h0, h0 = h := ⟨_, rfl⟩
  have old : ∀ x c, h0 x = some c → x ≠ a → h x = some c := fun x c hx _ => by rw [← hh0]; exact hx
  refine g_aload_n X dX2_init_0 rfl ?_
  refine g_objInit X lo_X2 lo_in lo_co (by rw [RM]; exact Nat.le_of_ble_eq_true rfl) (by rw [RM]; exact Nat.le_of_ble_eq_true rfl) dX2_init_1 ?_
  refine g_aload_n X dX2_init_4 rfl ?_
  refine g_bipush (v := 60) X dX2_init_5 (by decide) ?_
  refine gr_newq (N := 60) X G.t2 la_Guest (by decide) lc_X2_9 (by decide) (by decide) (by decide) (by rw [RM]; exact Nat.le_of_ble_eq_true rfl) (by rw [RM]; exact Nat.le_of_ble_eq_true rfl) dX2_init_7 (fun q7 h g_q7 f_q7 fx => ?_)
  have n_a_q7 : a ≠ q7 := gNew.ne g_q7 f_a
  have n_q7_a : q7 ≠ a := n_a_q7.symm
  have on_q7 : ∀ x c, h0 x = some c → x ≠ a → x ≠ q7 := fun x c hx hn => gNew.ne g_q7 (old x c hx hn)
  have f_a := (fx a n_a_q7).trans f_a
  have old : ∀ x c, h0 x = some c → x ≠ a → h x = some c := fun x c hx hn => (fx x (on_q7 x c hx hn)).trans (old x c hx hn)
  refine gr_putF (j := 0) X cl_X2 lk_X2_11 rfl (by decide) f_a rfl hin rfl rfl rfl (Nat.le_of_ble_eq_true rfl) (rfl : _ = [.ref q7, .int 0]) dX2_init_10 (fun h f_a fx => ?_)
  have f_q7 := (fx q7 n_q7_a).trans f_q7
  have old : ∀ x c, h0 x = some c → x ≠ a → h x = some c := fun x c hx hn => (fx x hn).trans (old x c hx hn)
  refine g_returnI X E dX2_init_13 (Nat.le_of_ble_eq_true rfl) (Nat.le_of_ble_eq_true rfl) ?_
  exact ⟨q7, hh0 ▸ g_q7, f_q7, f_a, hh0 ▸ old⟩
set_option maxHeartbeats 4000000 in
set_option maxRecDepth 100000 in
theorem k_X4 (G : gG Z) {a : Nat} (f_a : h a = some (.inr (6, [.null, .int 0, .int 0]))) : gMetI Z yX4_init cX4_init 1 1 1 12 [.ref a] h (fun h2 => ∃ q, gNew h q ∧ h2 q = some (.inl (Z.2.2.2.1 3, 12, gRow (fun _ => none))) ∧ h2 a = some (.inr (6, [.ref q, .int 0, .int 0])) ∧ ∀ x c, h x = some c → x ≠ a → h2 x = some c) := by
  refine g_enterI (lv := [(0, .ref a)]) G.2 (by decide +kernel) rfl (Nat.le_of_ble_eq_true rfl) rfl (fun Γ X hin E RM => ?_)
  obtain ⟨h0, hh0⟩ : ∃ h0, h0 = h := ⟨_, rfl⟩
  have old : ∀ x c, h0 x = some c → x ≠ a → h x = some c := fun x c hx _ => by rw [← hh0]; exact hx
  refine g_aload_n X dX4_init_0 rfl ?_
  refine g_objInit X lo_X4 lo_in lo_co (by rw [RM]; exact Nat.le_of_ble_eq_true rfl) (by rw [RM]; exact Nat.le_of_ble_eq_true rfl) dX4_init_1 ?_
  refine g_aload_n X dX4_init_4 rfl ?_
  refine g_bipush (v := 12) X dX4_init_5 (by decide) ?_
  refine gr_newq (N := 12) X G.t3 la_Block (by decide) lc_X4_9 (by decide) (by decide) (by decide) (by rw [RM]; exact Nat.le_of_ble_eq_true rfl) (by rw [RM]; exact Nat.le_of_ble_eq_true rfl) dX4_init_7 (fun q7 h g_q7 f_q7 fx => ?_)
  have n_a_q7 : a ≠ q7 := gNew.ne g_q7 f_a
  have n_q7_a : q7 ≠ a := n_a_q7.symm
  have on_q7 : ∀ x c, h0 x = some c → x ≠ a → x ≠ q7 := fun x c hx hn => gNew.ne g_q7 (old x c hx hn)
  have f_a := (fx a n_a_q7).trans f_a
  have old : ∀ x c, h0 x = some c → x ≠ a → h x = some c := fun x c hx hn => (fx x (on_q7 x c hx hn)).trans (old x c hx hn)
  refine gr_putF (j := 0) X cl_X4 lk_X4_11 rfl (by decide) f_a rfl hin rfl rfl rfl (Nat.le_of_ble_eq_true rfl) (rfl : _ = [.ref q7, .int 0, .int 0]) dX4_init_10 (fun h f_a fx => ?_)
  have f_q7 := (fx q7 n_q7_a).trans f_q7
  have old : ∀ x c, h0 x = some c → x ≠ a → h x = some c := fun x c hx hn => (fx x hn).trans (old x c hx hn)
  refine g_returnI X E dX4_init_13 (Nat.le_of_ble_eq_true rfl) (Nat.le_of_ble_eq_true rfl) ?_
  exact ⟨q7, hh0 ▸ g_q7, f_q7, f_a, hh0 ▸ old⟩
set_option maxHeartbeats 4000000 in
set_option maxRecDepth 100000 in
theorem k_X5 (G : gG Z) {a : Nat} {p1 : Int32} (f_a : h a = some (.inr (7, [.int 0, .null, .int 0, .int 0, .int 0, .int 0, .int 0, .int 0, .int 0]))) : gMetI Z yX5_init cX5_init 2 1 1 8 [.ref a, .int p1] h (fun h2 => ∃ q, gNew h q ∧ h2 q = some (.inl (Z.2.2.2.1 2, 8, gRow (fun _ => none))) ∧ h2 a = some (.inr (7, [.int p1, .ref q, .int 0, .int 0, .int 0, .int 115, .int 1, .int 0, .int 0])) ∧ ∀ x c, h x = some c → x ≠ a → h2 x = some c) := by
  refine g_enterI (lv := [(0, .ref a), (1, .int p1)]) G.2 (by decide +kernel) rfl (Nat.le_of_ble_eq_true rfl) rfl (fun Γ X hin E RM => ?_)
  obtain ⟨h0, hh0⟩ : ∃ h0, h0 = h := ⟨_, rfl⟩
  have old : ∀ x c, h0 x = some c → x ≠ a → h x = some c := fun x c hx _ => by rw [← hh0]; exact hx
  refine g_aload_n X dX5_init_0 rfl ?_
  refine g_objInit X lo_X5 lo_in lo_co (by rw [RM]; exact Nat.le_of_ble_eq_true rfl) (by rw [RM]; exact Nat.le_of_ble_eq_true rfl) dX5_init_1 ?_
  refine g_aload_n X dX5_init_4 rfl ?_
  refine g_iconst (v := 0) X dX5_init_5 (by decide) ?_
  refine gr_put (j := 3) X cl_X5 lk_X5_9 rfl (by decide) f_a rfl rfl rfl (Nat.le_of_ble_eq_true rfl) (rfl : _ = [.int 0, .null, .int 0, .int 0, .int 0, .int 0, .int 0, .int 0, .int 0]) dX5_init_6 (fun h f_a fx => ?_)
  have old : ∀ x c, h0 x = some c → x ≠ a → h x = some c := fun x c hx hn => (fx x hn).trans (old x c hx hn)
  refine g_aload_n X dX5_init_9 rfl ?_
  refine g_bipush (v := 115) X dX5_init_10 (by decide) ?_
  refine gr_put (j := 5) X cl_X5 lk_X5_15 rfl (by decide) f_a rfl (by decide) (by decide) (Nat.le_of_ble_eq_true rfl) (rfl : _ = [.int 0, .null, .int 0, .int 0, .int 0, .int 115, .int 0, .int 0, .int 0]) dX5_init_12 (fun h f_a fx => ?_)
  have old : ∀ x c, h0 x = some c → x ≠ a → h x = some c := fun x c hx hn => (fx x hn).trans (old x c hx hn)
  refine g_aload_n X dX5_init_15 rfl ?_
  refine g_iconst (v := 1) X dX5_init_16 (by decide) ?_
  refine gr_put (j := 6) X cl_X5 lk_X5_19 rfl (by decide) f_a rfl rfl rfl (Nat.le_of_ble_eq_true rfl) (rfl : _ = [.int 0, .null, .int 0, .int 0, .int 0, .int 115, .int 1, .int 0, .int 0]) dX5_init_17 (fun h f_a fx => ?_)
  have old : ∀ x c, h0 x = some c → x ≠ a → h x = some c := fun x c hx hn => (fx x hn).trans (old x c hx hn)
  refine g_aload_n X dX5_init_20 rfl ?_
  refine g_iload_n X dX5_init_21 rfl ?_
  refine gr_putF (j := 0) X cl_X5 lk_X5_22 rfl (by decide) f_a rfl hin rfl rfl rfl (Nat.le_of_ble_eq_true rfl) (rfl : _ = [.int p1, .null, .int 0, .int 0, .int 0, .int 115, .int 1, .int 0, .int 0]) dX5_init_22 (fun h f_a fx => ?_)
  have old : ∀ x c, h0 x = some c → x ≠ a → h x = some c := fun x c hx hn => (fx x hn).trans (old x c hx hn)
  refine g_aload_n X dX5_init_25 rfl ?_
  refine g_bipush (v := 8) X dX5_init_26 (by decide) ?_
  refine gr_newq (N := 8) X G.t2 la_Guest (by decide) lc_X5_25 (by decide) (by decide) (by decide) (by rw [RM]; exact Nat.le_of_ble_eq_true rfl) (by rw [RM]; exact Nat.le_of_ble_eq_true rfl) dX5_init_28 (fun q28 h g_q28 f_q28 fx => ?_)
  have n_a_q28 : a ≠ q28 := gNew.ne g_q28 f_a
  have n_q28_a : q28 ≠ a := n_a_q28.symm
  have on_q28 : ∀ x c, h0 x = some c → x ≠ a → x ≠ q28 := fun x c hx hn => gNew.ne g_q28 (old x c hx hn)
  have f_a := (fx a n_a_q28).trans f_a
  have old : ∀ x c, h0 x = some c → x ≠ a → h x = some c := fun x c hx hn => (fx x (on_q28 x c hx hn)).trans (old x c hx hn)
  refine gr_putF (j := 1) X cl_X5 lk_X5_27 rfl (by decide) f_a rfl hin rfl rfl rfl (Nat.le_of_ble_eq_true rfl) (rfl : _ = [.int p1, .ref q28, .int 0, .int 0, .int 0, .int 115, .int 1, .int 0, .int 0]) dX5_init_31 (fun h f_a fx => ?_)
  have f_q28 := (fx q28 n_q28_a).trans f_q28
  have old : ∀ x c, h0 x = some c → x ≠ a → h x = some c := fun x c hx hn => (fx x hn).trans (old x c hx hn)
  refine g_returnI X E dX5_init_34 (Nat.le_of_ble_eq_true rfl) (Nat.le_of_ble_eq_true rfl) ?_
  exact ⟨q28, GNEW, f_q28, f_a, hh0 ▸ old⟩
end GALLOC
