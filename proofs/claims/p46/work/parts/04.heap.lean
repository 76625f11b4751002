/-! rows of GJ over the heap: fields, arrays, new, ends, calls, throws -/
section GHEAP
variable {Z : gEnv} {Γ : gCtx} {cc : ByteArray} {own : String} {nL : Nat} {ret : Option FieldType} {h : gH} {k n pc : Nat} {lv lv' : List (Nat × Value)} {st : List Value}
/-- what is known of a class of ours: its place, its fields -/
def gCls (ci : Nat) (C : String) (T : u_T) (ty : Nat → FieldType) (N : Nat) : Prop :=
  vwCl[ci]? = some (C, T, N) ∧ (∀ w ∈ u_ws C T N, w ∈ gT) ∧ (∀ k, k < N → parseFieldDescriptor (T k).2.2.1 = some (ty k)) ∧ (∀ a, a < N → ∀ b, b < N → a ≠ b → (T a).2.1 ≠ (T b).2.1) ∧ Cond.instantiable C N ∈ gT ∧ Cond.initialized C ∈ gT
theorem g_get {ci j N index a : Nat} {C : String} {T : u_T} {ty : Nat → FieldType} {fs : List Value} {v : Value} (X : gOK Z Γ cc own nL ret) (K : gCls ci C T ty N) (hlk : Cond.fieldLink own index C (T j).2.1 (T j).2.2.1 ∈ gT) (hT : (T j).1 = C) (hj : j < N)
    (ha : h a = some (.inr (ci, fs))) (hv : fs[j]? = some v) (d : decode cc pc = .ok (.getfield index, 3)) (kk : GJ Z Γ h k n (pc + 3) lv (v :: st)) : GJ Z Γ h k n pc lv (.ref a :: st) := fun H locs ls hw hS hl =>
  va_get X.exec X.bytes X.wds K.2.1 X.ow X.K (hw.one ha) 0 rfl K.1 j hj (X.wd hlk) (fun x hx => by rw [hT] at hx; exact hx) hv d (kk H locs ls hw hS hl)
theorem g_put {ci j N index a : Nat} {C : String} {T : u_T} {ty : Nat → FieldType} {fs : List Value} {v : Value} (X : gOK Z Γ cc own nL ret) (K : gCls ci C T ty N) (hlk : Cond.fieldLink own index C (T j).2.1 (T j).2.2.1 ∈ gT) (hT : (T j).1 = C) (hj : j < N)
    (ha : h a = some (.inr (ci, fs))) (hfin : (T j).2.2.2 = false) (hn : narrow (ty j) v = v) (hfit : fits (ty j) v = true) (hlen : j < fs.length) (d : decode cc pc = .ok (.putfield index, 3))
    (kk : GJ Z Γ (va_up h a (some (.inr (ci, fs.set j v)))) k n (pc + 3) lv st) : GJ Z Γ h k n pc lv (v :: .ref a :: st) := by
  intro H locs ls hw hS hl
  have hts := X.wds
  have hap := va_apart (own := own) hts K.2.1 ty K.2.2.1 K.2.2.2.1 X.K K.1
  obtain ⟨r, h1, cell, q1, q2, q3, q4⟩ := (hw a _ ha).1
  have hr : r = (C, T, N) := Option.some.inj (h1.symm.trans K.1)
  subst hr
  obtain ⟨hSl, hfc, kC, hkC, hkind⟩ := X.K.1 ci _ K.1
  obtain ⟨cf, kf, fi, f, hi, hsl⟩ := hSl j hj
  have hlay := hts _ (K.2.1 _ (u_in_lay hj))
  unfold u_lay at hlay
  rw [if_neg (by rw [hfin]; decide)] at hlay
  have hst := (u_facts hfc hkC (u_lays hts K.2.1 hj) hi).1
  have h6 := u_store hfc hkC hkind hlay hi (K.2.2.1 j hj) hn hfit
  refine W.putK X.exec X.bytes (f := f) ⟨X.ow, X.wd hlk, ⟨_, _, _, by rw [← hT]; exact hi⟩, hst⟩ (by rw [q2]; exact h6) q1 q3 (by rw [hsl]; exact k2_hasslot (q4 j hj)) rfl rfl d fun H' e1 e2 e3 => ?_
  rw [hsl] at e1
  exact kk H' _ ls (hw.put ha ⟨_, h1, t_OB.to (V := updV (vp_V fs) j v) ⟨_, e1, q2, q3, t_set q4 hap hj v⟩ (fun i _ => vp_updV_set hlen v i)⟩ e3) (hS.put e2 e3 (hw a _ ha).2) hl
theorem g_putF {ci j N index a : Nat} {C : String} {T : u_T} {ty : Nat → FieldType} {fs : List Value} {v : Value} (X : gOK Z Γ cc own nL ret) (K : gCls ci C T ty N) (hlk : Cond.fieldLink own index C (T j).2.1 (T j).2.2.1 ∈ gT) (hT : (T j).1 = C) (hj : j < N)
    (ha : h a = some (.inr (ci, fs))) (hfin : (T j).2.2.2 = true) (hin : Γ.2.2.2.2.2.2.2.1.name = "<init>") (hown : C = own) (hn : narrow (ty j) v = v) (hfit : fits (ty j) v = true) (hlen : j < fs.length) (d : decode cc pc = .ok (.putfield index, 3))
    (kk : GJ Z Γ (va_up h a (some (.inr (ci, fs.set j v)))) k n (pc + 3) lv st) : GJ Z Γ h k n pc lv (v :: .ref a :: st) := by
  intro H locs ls hw hS hl
  have hts := X.wds
  have hap := va_apart (own := own) hts K.2.1 ty K.2.2.1 K.2.2.2.1 X.K K.1
  obtain ⟨r, h1, cell, q1, q2, q3, q4⟩ := (hw a _ ha).1
  have hr : r = (C, T, N) := Option.some.inj (h1.symm.trans K.1)
  subst hr
  obtain ⟨hSl, hfc, kC, hkC, hkind⟩ := X.K.1 ci _ K.1
  obtain ⟨cf, kf, fi, f, hi, hsl⟩ := hSl j hj
  have hlay := hts _ (K.2.1 _ (u_in_lay hj))
  unfold u_lay at hlay
  rw [if_pos hfin] at hlay
  have hst := (u_facts hfc hkC (u_lays hts K.2.1 hj) hi).1
  have hcf : Γ.2.2.2.2.1.cls = cf := by
    obtain ⟨_, _, c', _, _, _, -, -, hf', -, -, -, hown2, -⟩ := Cond.laysFinal_spec hlay
    have e1 : c' = cf := by have := hi.symm.trans hf'; simp at this; exact this.1.symm
    rw [hT, hown] at hown2
    rw [← e1]; exact Option.some.inj (X.ow.symm.trans hown2)
  have h6 := u_fits hfc hkC hkind (Or.inr hlay) hi (K.2.2.1 j hj) hn hfit
  refine W.putFinK X.exec X.bytes X.ow (X.wd hlk) (by rw [← hT]; exact hi) hst hcf hin (by rw [q2]; exact h6) q1 q3 (by rw [hsl]; exact k2_hasslot (q4 j hj)) rfl rfl d fun H' e1 e2 e3 => ?_
  rw [hsl] at e1
  exact kk H' _ ls (hw.put ha ⟨_, h1, t_OB.to (V := updV (vp_V fs) j v) ⟨_, e1, q2, q3, t_set q4 hap hj v⟩ (fun i _ => vp_updV_set hlen v i)⟩ e3) (hS.put e2 e3 (hw a _ ha).2) hl
/-- an array's class is one of ours -/
def gTy (Z : gEnv) (t : Nat) (ty : FieldType) : Prop := Z.2.1[t]? = some (Z.2.2.2.1 t, ty)
theorem g_alen {a t : Nat} {ty : FieldType} {x : vp_A} {v : Int32} (X : gOK Z Γ cc own nL ret) (ht : gTy Z t ty) (ha : h a = some (.inl (Z.2.2.2.1 t, x))) (hv : Int32.ofNat x.1 = v) (d : decode cc pc = .ok (.arraylength, 1)) (kk : GJ Z Γ h k n (pc + 1) lv (.int v :: st)) : GJ Z Γ h k n pc lv (.ref a :: st) := fun H locs ls hw hS hl =>
  va_alen X.exec X.bytes X.K (hw.one ha) 0 t rfl ht hv d (kk H locs ls hw hS hl)
theorem g_iald {a t m : Nat} {f : Nat → Int32} {i : Int32} (X : gOK Z Γ cc own nL ret) (ht : gTy Z t .int) (ha : h a = some (.inl (Z.2.2.2.1 t, m, .inl f))) (hin : vp_in i m) (d : decode cc pc = .ok (.iaload, 1)) (kk : ∀ z : Int32, z = f i.toNatClampNeg → GJ Z Γ h k n (pc + 1) lv (.int z :: st)) : GJ Z Γ h k n pc lv (.int i :: .ref a :: st) := fun H locs ls hw hS hl =>
  va_iald X.exec X.bytes X.K (hw.one ha) 0 t rfl ht hin d (kk _ rfl H locs ls hw hS hl)
theorem g_iast {a t m : Nat} {f : Nat → Int32} {i x : Int32} (X : gOK Z Γ cc own nL ret) (ht : gTy Z t .int) (ha : h a = some (.inl (Z.2.2.2.1 t, m, .inl f))) (hin : vp_in i m) (d : decode cc pc = .ok (.iastore, 1)) (kk : GJ Z Γ (va_up h a (some (.inl (Z.2.2.2.1 t, m, .inl (upd f i.toNatClampNeg x))))) k n (pc + 1) lv st) : GJ Z Γ h k n pc lv (.int x :: .int i :: .ref a :: st) := by
  intro H locs ls hw hS hl
  refine W.iast X.exec X.bytes (hw a _ ha).1 ((X.K.2 t _ ht).1 m (fun j => .int (f j))) (fun q => by cases q) (by show ¬ (i < 0 ∨ (arrV _ _ _).slots.size ≤ _); rw [arrV_size]; exact hin) rfl rfl d fun H1 e z oq => ?_
  refine kk H1 _ ls (hw.put ha ?_ oq) (hS.put z oq (hw a _ ha).2) hl
  show H1[a]? = some (vp_cell _ _)
  rw [e]
  rw [vp_cell_i, vp_cell_i, arrV_store]
  congr 2
  funext q
  by_cases hq : q = i.toNatClampNeg
  · subst hq
    simp [updV, upd]
  · simp [updV, upd, hq]
theorem g_aald {a t m : Nat} {C : String} {f : Nat → Option Nat} {i : Int32} (X : gOK Z Γ cc own nL ret) (ht : gTy Z t (.object C)) (ha : h a = some (.inl (Z.2.2.2.1 t, m, .inr (.inr (.inr (.inr f)))))) (hin : vp_in i m) (d : decode cc pc = .ok (.aaload, 1)) (kk : GJ Z Γ h k n (pc + 1) lv (va_rf (f i.toNatClampNeg) :: st)) : GJ Z Γ h k n pc lv (.int i :: .ref a :: st) := fun H locs ls hw hS hl =>
  va_aldq X.exec X.bytes X.K (hw.one ha) 0 t rfl ht hin d (kk H locs ls hw hS hl)
theorem g_aast {a t m v ci N : Nat} {C : String} {T : u_T} {ty : Nat → FieldType} {f : Nat → Option Nat} {fs : List Value} {i : Int32} (X : gOK Z Γ cc own nL ret) (K : gCls ci C T ty N) (ht : gTy Z t (.object C)) (ha : h a = some (.inl (Z.2.2.2.1 t, m, .inr (.inr (.inr (.inr f)))))) (hvv : h v = some (.inr (ci, fs))) (hin : vp_in i m) (d : decode cc pc = .ok (.aastore, 1))
    (kk : GJ Z Γ (va_up h a (some (.inl (Z.2.2.2.1 t, m, .inr (.inr (.inr (.inr (va_up f i.toNatClampNeg (some v))))))))) k n (pc + 1) lv st) : GJ Z Γ h k n pc lv (.ref v :: .int i :: .ref a :: st) := by
  intro H locs ls hw hS hl
  have hlt : i.toNatClampNeg < m := Nat.not_le.mp fun q => hin (Or.inr q)
  have h0 : ¬ i < 0 := fun q => hin (Or.inl q)
  obtain ⟨r', hr', cellV, g1, g2, g3, -⟩ := (hw v _ hvv).1
  have hcls := (X.K.1 ci _ K.1).2
  obtain ⟨kA, comp, k1, k2, k3, -⟩ := (X.K.2 t _ ht).2
  have hcomp : comp = Z.1.1 ci := Option.some.inj (k3.symm.trans hcls.1)
  subst hcomp
  obtain ⟨kC, hkC, -⟩ := hcls.2
  refine W.aast X.exec X.bytes (hw a _ ha).1 (fun q h => by cases h) (fun h => by cases h) k1 k2 rfl hkC ⟨h0, by show _ < (arrV _ _ _).slots.size; rw [arrV_size]; exact hlt⟩ g1 (fun q h => by rw [g3] at h; cases h) (by rw [g2]; exact hkC) (by rw [g2]; exact va_assign hcls) rfl rfl d fun H1 e z oq => ?_
  refine kk H1 _ ls (hw.put ha ?_ oq) (hS.put z oq (hw a _ ha).2) hl
  show H1[a]? = some (vp_cell _ _)
  rw [e]
  rw [vp_cell_q, vp_cell_q, arrV_store]
  congr 2
  funext q
  by_cases hq : q = i.toNatClampNeg
  · subst hq
    simp [updV, va_up, va_rf]
  · simp [updV, va_up, hq]
theorem g_aastN {a t m : Nat} {C : String} {f : Nat → Option Nat} {i : Int32} (X : gOK Z Γ cc own nL ret) (ht : gTy Z t (.object C)) (ha : h a = some (.inl (Z.2.2.2.1 t, m, .inr (.inr (.inr (.inr f)))))) (hin : vp_in i m) (d : decode cc pc = .ok (.aastore, 1))
    (kk : GJ Z Γ (va_up h a (some (.inl (Z.2.2.2.1 t, m, .inr (.inr (.inr (.inr (va_up f i.toNatClampNeg none)))))))) k n (pc + 1) lv st) : GJ Z Γ h k n pc lv (.null :: .int i :: .ref a :: st) := by
  intro H locs ls hw hS hl
  refine va_WaastN (C := C) X.exec X.bytes (hw a _ ha).1 ((X.K.2 t _ ht).1 m (fun j => va_rf (f j))) (fun h => by cases h) (by show ¬ (i < 0 ∨ (arrV _ _ _).slots.size ≤ _); rw [arrV_size]; exact hin) rfl rfl d fun H1 e z oq => ?_
  refine kk H1 _ ls (hw.put ha ?_ oq) (hS.put z oq (hw a _ ha).2) hl
  show H1[a]? = some (vp_cell _ _)
  rw [e]
  rw [vp_cell_q, vp_cell_q, arrV_store]
  congr 2
  funext q
  by_cases hq : q = i.toNatClampNeg
  · subst hq
    simp [updV, va_up, va_rf]
  · simp [updV, va_up, hq]
/-- the addresses of the abstract heap lie in the heap: a new one is none of them -/
def gNew (h : gH) (q : Nat) : Prop := ∀ a x, h a = some x → a < q
theorem gNew.ne {h : gH} {q a : Nat} {x : va_E} (hq : gNew h q) (ha : h a = some x) : a ≠ q := Nat.ne_of_lt (hq a x ha)
theorem g_new {ci N index : Nat} {C : String} {T : u_T} {ty : Nat → FieldType} (fs : List Value) (X : gOK Z Γ cc own nL ret) (K : gCls ci C T ty N) (hlk : Cond.classLink own index C ∈ gT) (hfs : ∀ j, j < N → defaultValue (ty j) = vp_V fs j) (hc : k + 1 ≤ Γ.2.2.1.cells) (hs : n + N ≤ Γ.2.2.1.slots) (d : decode cc pc = .ok (.new index, 3))
    (kk : ∀ q : Nat, gNew h q → Z.2.2.1 ≤ q → GJ Z Γ (va_up h q (some (.inr (ci, fs)))) (k + 1) (n + N) (pc + 3) lv (.ref q :: st)) : GJ Z Γ h k n pc lv st := by
  intro H locs ls hw hS hl
  have hz : Z.2.2.1 ≤ H.size := Nat.le_trans X.base hS.1
  have hKn := X.K.1 ci _ K.1
  refine W.newcK (c := Γ.2.2.2.2.2.2.2.2.1) X.exec X.bytes X.ow (X.wd hlk) (X.wd K.2.2.2.2.1) (X.wd K.2.2.2.2.2) rfl d hc hs hKn.2.1 rfl fun H1 kC hkC e1 z1 o1 => ?_
  exact kk H.size (fun a x ha => hw.lt ha) hz H1 locs ls (hw.push hz ⟨_, K.1, (u_born ty X.wds K.2.1 hKn hkC e1 K.2.2.1).to hfs⟩ o1) ⟨Nat.le_trans hS.1 (by omega), fun x h1 h2 => (o1 x (Nat.lt_of_lt_of_le h1 hS.1)).trans (hS.2.1 x h1 h2), hS.2.2⟩ hl
theorem g_newi {t N : Nat} {x : Int32} (X : gOK Z Γ cc own nL ret) (ht : gTy Z t .int) (harr : Cond.arrayClass .int ∈ gT) (hx : ¬ x < 0) (hN : x.toNatClampNeg = N) (hb : N * 4 ≤ 536870912) (hc : k + 1 ≤ Γ.2.2.1.cells) (hs : n + N ≤ Γ.2.2.1.slots) (d : decode cc pc = .ok (.newarray .int, 2))
    (kk : ∀ q : Nat, gNew h q → Z.2.2.1 ≤ q → GJ Z Γ (va_up h q (some (.inl (Z.2.2.2.1 t, N, .inl (fun _ => 0))))) (k + 1) (n + N) (pc + 2) lv (.ref q :: st)) : GJ Z Γ h k n pc lv (.int x :: st) := by
  intro H locs ls hw hS hl
  have hz : Z.2.2.1 ≤ H.size := Nat.le_trans X.base hS.1
  refine va_newaK (atype := .int) X.exec X.bytes (X.wd harr) rfl d rfl hx hN hb hc hs rfl fun H1 cA e1 z1 o1 hAr hNm => ?_
  have h9 : Γ.2.2.2.1.vm.findClass ("[" ++ (FieldType.int).toString) = some (Z.2.2.2.1 t) := (X.K.2 t _ ht).2
  have h8 : Γ.2.2.2.1.vm.findClass ("[" ++ (FieldType.int).toString) = some cA := hNm
  have hcA : cA = Z.2.2.2.1 t := Option.some.inj (h8.symm.trans h9)
  subst hcA
  refine kk H.size (fun a y ha => hw.lt ha) hz H1 locs ls (hw.push hz ?_ o1) ⟨Nat.le_trans hS.1 (by omega), fun y h1 h2 => (o1 y (Nat.lt_of_lt_of_le h1 hS.1)).trans (hS.2.1 y h1 h2), hS.2.2⟩ hl
  show H1[H.size]? = some (vp_cell _ _)
  rw [vp_cell_i]
  exact e1
theorem g_newq {t N index : Nat} {C : String} {x : Int32} (X : gOK Z Γ cc own nL ret) (ht : gTy Z t (.object C)) (harr : Cond.arrayOver (.object C) ∈ tables_1) (hover : va_AO C Γ.2.2.2.1) (hlk : Cond.classLink own index C ∈ gT) (hx : ¬ x < 0) (hN : x.toNatClampNeg = N) (hb : N * 4 ≤ 536870912) (hc : k + 1 ≤ Γ.2.2.1.cells) (hs : n + N ≤ Γ.2.2.1.slots) (d : decode cc pc = .ok (.anewarray index, 3))
    (kk : ∀ q : Nat, gNew h q → Z.2.2.1 ≤ q → GJ Z Γ (va_up h q (some (.inl (Z.2.2.2.1 t, N, .inr (.inr (.inr (.inr (fun _ => none)))))))) (k + 1) (n + N) (pc + 3) lv (.ref q :: st)) : GJ Z Γ h k n pc lv (.int x :: st) := by
  intro H locs ls hw hS hl
  have hz : Z.2.2.1 ≤ H.size := Nat.le_trans X.base hS.1
  subst hN
  refine W.anew X.exec X.bytes X.ow (X.wd hlk) (va_AO.use hover) rfl d rfl hx hb hc hs fun cA kA comp f1 f2 f3 f4 => ?_
  generalize hH1 : H.push ({ cls := cA, slots := Array.replicate x.toNatClampNeg .null, vm := .none } : Cell) = H1
  have z1 : H1.size = H.size + 1 := by rw [← hH1, Array.size_push]
  have e1 : H1[H.size]? = some (arrV cA x.toNatClampNeg (fun _ => .null)) := by rw [← hH1, Array.getElem?_push_size, ← arrV_new]
  have o1 : ∀ q : Nat, q < H.size → H1[q]? = H[q]? := fun q hq => by rw [← hH1, Array.getElem?_push, if_neg (Nat.ne_of_lt hq)]
  obtain ⟨kA2, comp2, g1, g2, g3, g4⟩ := (X.K.2 t _ ht).2
  have hcA : cA = Z.2.2.2.1 t := Option.some.inj (f1.symm.trans g4)
  subst hcA
  refine kk H.size (fun a y ha => hw.lt ha) hz H1 locs ls (hw.push hz ?_ o1) ⟨Nat.le_trans hS.1 (by omega), fun y h1 h2 => (o1 y (Nat.lt_of_lt_of_le h1 hS.1)).trans (hS.2.1 y h1 h2), hS.2.2⟩ hl
  show H1[H.size]? = some (vp_cell _ _)
  rw [vp_cell_q]
  exact e1
theorem g_objInit {idx a : Nat} (X : gOK Z Γ cc own nL ret) (hlk : Cond.methodLink own idx objectInit ∈ gT) (hin : Cond.instanceMethod objectInit ∈ gT) (hco : Cond.code objectInit ⟨#[0xb1]⟩ 1 none ∈ gT) (hf : 1 ≤ Γ.2.2.1.frames) (hlo : (st.map fun v => v.category).sum + 12 ≤ Γ.2.2.1.locals) (d : decode cc pc = .ok (.invokespecial idx, 3))
    (kk : GJ Z Γ h k n (pc + 3) lv st) : GJ Z Γ h k n pc lv (.ref a :: st) := by
  intro H locs ls hw hS hl
  refine W.objInit X.exec X.bytes X.ow (X.wd hlk) (X.wd hin) (X.wd hco) rfl (by rw [X.maxl]; exact hl.1.trans X.nl) rfl d hf ?_ (kk H locs ls hw hS hl)
  show 2 * JFrame.monitorRoom (F0 Γ.2.2.2.2.1 pc ls (.ref a :: st)) + _ + 12 ≤ _
  rw [show JFrame.monitorRoom (F0 Γ.2.2.2.2.1 pc ls (.ref a :: st)) = 0 from rfl]
  omega
/-! contracts -/
def gPc (Z : gEnv) (av : List Value) (h : gH) : Array Value → State → Prop := va_Pc av (fun U => gWd Z h U.heap ∧ va_K Z.1 vwCl Z.2.1 U ∧ gSt Z.2.2.1 U U.heap ∧ Z.2.2.1 ≤ U.heap.size)
def gQc (Z : gEnv) (Q : Option Value → gH → Prop) : Array Value → State → Outcome → State → Prop := fun _ st o t => (∃ (v : Option Value) (h' : gH), o = .returned v ∧ Q v h' ∧ gWd Z h' t.heap) ∧ va_F (gA Z) st t
def gXC (Z : gEnv) (QX : String → gH → Prop) : String → State → State → Prop := fun E st t => (∃ h' : gH, QX E h' ∧ gWd Z h' t.heap) ∧ va_F (gA Z) st t
abbrev gRm (d mc ms : Nat) : Room := { frames := d, cells := mc, slots := ms, locals := 50 * d }
def gMet (Z : gEnv) (y : MethodName) (cc : ByteArray) (nL : Nat) (ret : Option FieldType) (d mc ms : Nat) (av : List Value) (h : gH) (Q : Option Value → gH → Prop) (QX : String → gH → Prop) : Prop :=
  vx_Met Z.2.2.2.2 y (gWS y cc nL ret) (gRm d mc ms) (gPc Z av h) (gQc Z Q) (gXC Z QX) mc ms (gA Z)
/-- a constructor's: nothing is thrown -/
def gMetI (Z : gEnv) (y : MethodName) (cc : ByteArray) (nL : Nat) (d mc ms : Nat) (av : List Value) (h : gH) (Q : gH → Prop) : Prop :=
  Met Z.2.2.2.2 y (gWS y cc nL none) (gRm d mc ms) (gPc Z av h) (gQc Z (fun v h' => v = none ∧ Q h')) mc ms (gA Z)
theorem gPc_blind {av : List Value} : FrameBlind (gPc Z av h) := fun a U g mk q => ⟨q.1, q.2.1, va_K.moved (u := U) (U := U.calling g mk a) (Vm.Alike.refl U.vm) q.2.2.1, by
  obtain ⟨h1, h2, h3, h4, h5, h6, h7⟩ := q.2.2.2.1
  refine ⟨vx_Zq.moved (u := U) (U := U.calling g mk a) (Vm.Alike.refl U.vm) h1, vx_Zq.moved (u := U) (U := U.calling g mk a) (Vm.Alike.refl U.vm) h2, fun q hq => ?_, fun w hw => ?_, fun q hq => (h5 q hq).moved (U := U.calling g mk a) (Vm.Alike.refl U.vm), fun C hC => (h6 C hC).moved (U := U.calling g mk a) (Vm.Alike.refl U.vm), fun q hq => ?_⟩
  · obtain ⟨x, hx⟩ := h3 q hq
    exact ⟨x, hx.same (U := U.calling g mk a) rfl⟩
  · exact va_tabs (by have := (List.mem_filter.mp hw).2; cases w <;> first | rfl | (exact absurd this (by simp [gSoft]))) (show U.vm = (U.calling g mk a).vm from rfl) (h4 w hw)
  · obtain ⟨x, v, k1, k2, k3, k4, k5⟩ := h7 q hq
    exact ⟨x, v, k1.same (U := U.calling g mk a) rfl, k2.moved (U := U.calling g mk a) (Vm.Alike.refl U.vm), k3.moved (U := U.calling g mk a) (Vm.Alike.refl U.vm), k4.moved (U := U.calling g mk a) (Vm.Alike.refl U.vm), k5.moved (U := U.calling g mk a) (Vm.Alike.refl U.vm)⟩, q.2.2.2.2⟩
/-- what a method owes at its end -/
def gEnd (Z : gEnv) (Γ : gCtx) (mc ms : Nat) (Q : Option Value → gH → Prop) (QX : String → gH → Prop) : Prop := Γ.2.2.2.2.2.2.2.2.2.2 = vx_MQ Γ.2.2.2.2.2.2.1 (gQc Z Q) (gXC Z QX) Γ.2.2.2.2.2.1 Γ.2.2.2.1 mc ms (gA Z)
def gEndI (Z : gEnv) (Γ : gCtx) (mc ms : Nat) (Q : gH → Prop) : Prop := Γ.2.2.2.2.2.2.2.2.2.2 = MQ Γ.2.2.2.2.2.2.1 (gQc Z (fun v h' => v = none ∧ Q h')) Γ.2.2.2.2.2.1 Γ.2.2.2.1 mc ms (gA Z)
def gNoTab (Γ : gCtx) : Prop := ∀ x ∈ Γ.2.2.2.2.2.2.2.2.1.exceptionTable.toList, False
theorem g_enter {y : MethodName} {d mc ms : Nat} {av : List Value} {Q : Option Value → gH → Prop} {QX : String → gH → Prop} (hl : Z.2.2.2.2.stackTraces = false) (hy : plainName y.cls = true) (hn : (lg_sl av).length ≤ nL) (hlv : lv_args 0 av = lv)
    (body : ∀ Γ : gCtx, gOK Z Γ cc y.cls nL ret → gNoTab Γ → gEnd Z Γ mc ms Q QX → Γ.2.2.1 = gRm d mc ms → GJ Z Γ h 0 0 0 lv []) : gMet Z y cc nL ret d mc ms av h Q QX := by
  subst hlv
  refine vx_ofW hy rfl ?_
  intro p e s m args below meth c s₁ B hml htab hv
  obtain ⟨rfl, hw, hK, hst, hsz⟩ := hv
  have hts := atoms_spec (ws := gWS y cc nL ret) B.pre
  have hl0 := lv_entry av (n := nL) hn
  rw [lg_entry_eq]
  have X : gOK Z (p, e, gRm d mc ms, s, m, av.toArray, below, meth, c, nL, vx_MQ below (gQc Z Q) (gXC Z QX) av.toArray s mc ms (gA Z)) cc y.cls nL ret := ⟨B.exec, B.bytes, hml, rfl, findClass_of_methodNamed B.named, fun w hw => hts w (List.mem_cons_of_mem _ hw), B.notSynchronized, B.returns, hl, hK, hst, hsz⟩
  exact body (p, e, gRm d mc ms, s, m, av.toArray, below, meth, c, nL, vx_MQ below (gQc Z Q) (gXC Z QX) av.toArray s mc ms (gA Z)) X htab rfl rfl s.heap [] _ hw va_S.rf hl0
theorem g_enterI {y : MethodName} {d mc ms : Nat} {av : List Value} {Q : gH → Prop} (hl : Z.2.2.2.2.stackTraces = false) (hy : plainName y.cls = true) (hy2 : y.name = "<init>") (hn : (lg_sl av).length ≤ nL) (hlv : lv_args 0 av = lv)
    (body : ∀ Γ : gCtx, gOK Z Γ cc y.cls nL none → Γ.2.2.2.2.2.2.2.1.name = "<init>" → gEndI Z Γ mc ms Q → Γ.2.2.1 = gRm d mc ms → GJ Z Γ h 0 0 0 lv []) : gMetI Z y cc nL d mc ms av h Q := by
  subst hlv
  refine Met.ofW hy rfl ?_
  intro p e s m args below meth c s₁ B hml hv
  obtain ⟨rfl, hw, hK, hst, hsz⟩ := hv
  have hts := atoms_spec (ws := gWS y cc nL none) B.pre
  have hl0 := lv_entry av (n := nL) hn
  rw [lg_entry_eq]
  have hin : meth.name = "<init>" := (name_of_methodNamed B.named B.method).1.trans hy2
  have X : gOK Z (p, e, gRm d mc ms, s, m, av.toArray, below, meth, c, nL, MQ below (gQc Z (fun v h' => v = none ∧ Q h')) av.toArray s mc ms (gA Z)) cc y.cls nL none := ⟨B.exec, B.bytes, hml, rfl, findClass_of_methodNamed B.named, fun w hw => hts w (List.mem_cons_of_mem _ hw), B.notSynchronized, B.returns, hl, hK, hst, hsz⟩
  exact body (p, e, gRm d mc ms, s, m, av.toArray, below, meth, c, nL, MQ below (gQc Z (fun v h' => v = none ∧ Q h')) av.toArray s mc ms (gA Z)) X hin rfl rfl s.heap [] _ hw va_S.rf hl0
/-! ends -/
theorem g_ireturn {mc ms : Nat} {Q : Option Value → gH → Prop} {QX : String → gH → Prop} {ty : FieldType} {v : Int32} (X : gOK Z Γ cc own nL (some ty)) (E : gEnd Z Γ mc ms Q QX) (hn : narrow ty (.int v) = .int v) (d : decode cc pc = .ok (.ireturn, 1)) (h1 : k ≤ mc) (h2 : n ≤ ms) (hq : Q (some (.int v)) h) : GJ Z Γ h k n pc lv [.int v] := by
  intro H locs ls hw hS hl
  unfold gW
  rw [E]
  exact vx_ret (W.widen h1 h2 (W.zret X.exec X.bytes X.rt hn (fun t ht _ => ⟨⟨_, h, rfl, hq, by rw [ht]; exact hw⟩, hS.F ht⟩) hS.2.2 d (hlocks := X.locks)))
theorem g_lreturn {mc ms : Nat} {Q : Option Value → gH → Prop} {QX : String → gH → Prop} {v : Int64} (X : gOK Z Γ cc own nL (some .long)) (E : gEnd Z Γ mc ms Q QX) (d : decode cc pc = .ok (.lreturn, 1)) (h1 : k ≤ mc) (h2 : n ≤ ms) (hq : Q (some (.long v)) h) : GJ Z Γ h k n pc lv [.long v] := by
  intro H locs ls hw hS hl
  unfold gW
  rw [E]
  exact vx_ret (W.widen h1 h2 (W.lret X.exec X.bytes X.rt (fun t ht _ => ⟨⟨_, h, rfl, hq, by rw [ht]; exact hw⟩, hS.F ht⟩) hS.2.2 d (hlocks := X.locks)))
theorem g_return {mc ms : Nat} {Q : Option Value → gH → Prop} {QX : String → gH → Prop} (X : gOK Z Γ cc own nL none) (E : gEnd Z Γ mc ms Q QX) (d : decode cc pc = .ok (.return_, 1)) (h1 : k ≤ mc) (h2 : n ≤ ms) (hq : Q none h) : GJ Z Γ h k n pc lv [] := by
  intro H locs ls hw hS hl
  unfold gW
  rw [E]
  exact vx_ret (W.widen h1 h2 (W.vret X.exec X.bytes X.rt (fun t ht _ => ⟨⟨_, h, rfl, hq, by rw [ht]; exact hw⟩, hS.F ht⟩) hS.2.2 d (hlocks := X.locks)))
theorem g_returnI {mc ms : Nat} {Q : gH → Prop} (X : gOK Z Γ cc own nL none) (E : gEndI Z Γ mc ms Q) (d : decode cc pc = .ok (.return_, 1)) (h1 : k ≤ mc) (h2 : n ≤ ms) (hq : Q h) : GJ Z Γ h k n pc lv [] := by
  intro H locs ls hw hS hl
  unfold gW
  rw [E]
  exact W.widen h1 h2 (W.vret X.exec X.bytes X.rt (fun t ht _ => ⟨⟨_, h, rfl, ⟨rfl, hq⟩, by rw [ht]; exact hw⟩, hS.F ht⟩) hS.2.2 d (hlocks := X.locks))
theorem g_areturn {mc ms : Nat} {Q : Option Value → gH → Prop} {QX : String → gH → Prop} {C : String} {v : Value} (X : gOK Z Γ cc own nL (some (.object C))) (E : gEnd Z Γ mc ms Q QX) (hv : v = .null ∨ ∃ a, v = .ref a) (d : decode cc pc = .ok (.areturn, 1)) (h1 : k ≤ mc) (h2 : n ≤ ms) (hq : Q (some v) h) : GJ Z Γ h k n pc lv [v] := by
  intro H locs ls hw hS hl
  unfold gW
  rw [E]
  exact vx_ret (W.widen h1 h2 (W.aret X.exec X.bytes X.rt (Or.inl ⟨C, rfl⟩) hv (fun t ht _ => ⟨⟨_, h, rfl, hq, by rw [ht]; exact hw⟩, hS.F ht⟩) hS.2.2 d (hlocks := X.locks)))
/-- an exception goes on to the caller -/
theorem g_out {mc ms : Nat} {Q : Option Value → gH → Prop} {QX : String → gH → Prop} {E0 : String} (X : gOK Z Γ cc own nL ret) (N : gNoTab Γ) (E : gEnd Z Γ mc ms Q QX) (h1 : k ≤ mc) (h2 : n ≤ ms) (hq : QX E0 h) : GX Z Γ h k n pc lv st E0 := by
  intro H locs ls q ce hw hS hl hc1 hc2 hc3
  rw [E]
  exact vx_out (fun x hx => (N x hx).elim) X.locks hc1 hc2 hc3 (fun t ht _ => ⟨⟨h, hq, by rw [ht]; exact hw⟩, hS.F ht⟩) hS.2.2 h1 h2
end GHEAP
