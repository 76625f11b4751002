/-! the state of the park: numbers by kind, object, slot (pI); longs (pJ); who sits where (pRD: ride, train, place; pPL: ride, queue, place); a guest's queue (pGL); how many rides, guests, blocks, trains; an array of the law's own. Kinds: 0 block 1 guest 2 queue 3 ride 4 ring 5 train 6 park; arrays: 7 rides 8 certificates 9 guests 10 blocks 11 trains 12 riders 13 places 14 the law's own -/
section GSTATE
abbrev gP : Type := (Nat → Nat → Nat → Nat → Int32) × (Nat → Int64) × (Nat → Nat → Nat → Option Nat) × (Nat → Nat → Nat → Option Nat) × (Nat → Option (Nat × Nat)) × Nat × Nat × (Nat → Nat) × (Nat → Nat) × Nat
def pI (P : gP) (k r i s : Nat) : Int32 := P.1 k r i s
def pJ (P : gP) (s : Nat) : Int64 := P.2.1 s
def pRD (P : gP) (r i j : Nat) : Option Nat := P.2.2.1 r i j
def pPL (P : gP) (r i j : Nat) : Option Nat := P.2.2.2.1 r i j
def pGL (P : gP) (g : Nat) : Option (Nat × Nat) := P.2.2.2.2.1 g
def pnR (P : gP) : Nat := P.2.2.2.2.2.1
def pnG (P : gP) : Nat := P.2.2.2.2.2.2.1
def pnB (P : gP) (r : Nat) : Nat := P.2.2.2.2.2.2.2.1 r
def pnT (P : gP) (r : Nat) : Nat := P.2.2.2.2.2.2.2.2.1 r
def pnX (P : gP) : Nat := P.2.2.2.2.2.2.2.2.2
def uI (P : gP) (k r i s : Nat) (v : Int32) : gP := (fun k' r' i' s' => if k' = k ∧ r' = r ∧ i' = i ∧ s' = s then v else P.1 k' r' i' s', P.2)
def uJ (P : gP) (s : Nat) (v : Int64) : gP := (P.1, fun s' => if s' = s then v else P.2.1 s', P.2.2)
def uRD (P : gP) (r i j : Nat) (v : Option Nat) : gP := (P.1, P.2.1, fun r' i' j' => if r' = r ∧ i' = i ∧ j' = j then v else P.2.2.1 r' i' j', P.2.2.2)
def uPL (P : gP) (r i j : Nat) (v : Option Nat) : gP := (P.1, P.2.1, P.2.2.1, fun r' i' j' => if r' = r ∧ i' = i ∧ j' = j then v else P.2.2.2.1 r' i' j', P.2.2.2.2)
def uGL (P : gP) (g : Nat) (v : Option (Nat × Nat)) : gP := (P.1, P.2.1, P.2.2.1, P.2.2.2.1, fun g' => if g' = g then v else P.2.2.2.2.1 g', P.2.2.2.2.2)
def unR (P : gP) (v : Nat) : gP := (P.1, P.2.1, P.2.2.1, P.2.2.2.1, P.2.2.2.2.1, v, P.2.2.2.2.2.2)
def unG (P : gP) (v : Nat) : gP := (P.1, P.2.1, P.2.2.1, P.2.2.2.1, P.2.2.2.2.1, P.2.2.2.2.2.1, v, P.2.2.2.2.2.2.2)
def unB (P : gP) (r : Nat) (v : Nat) : gP := (P.1, P.2.1, P.2.2.1, P.2.2.2.1, P.2.2.2.2.1, P.2.2.2.2.2.1, P.2.2.2.2.2.2.1, fun r' => if r' = r then v else P.2.2.2.2.2.2.2.1 r', P.2.2.2.2.2.2.2.2)
def unT (P : gP) (r : Nat) (v : Nat) : gP := (P.1, P.2.1, P.2.2.1, P.2.2.2.1, P.2.2.2.2.1, P.2.2.2.2.2.1, P.2.2.2.2.2.2.1, P.2.2.2.2.2.2.2.1, fun r' => if r' = r then v else P.2.2.2.2.2.2.2.2.1 r', P.2.2.2.2.2.2.2.2.2)
def unX (P : gP) (v : Nat) : gP := (P.1, P.2.1, P.2.2.1, P.2.2.2.1, P.2.2.2.2.1, P.2.2.2.2.2.1, P.2.2.2.2.2.2.1, P.2.2.2.2.2.2.2.1, P.2.2.2.2.2.2.2.2.1, v)
theorem pI_uI (P : gP) (k0 r0 i0 s0 : Nat) (v : Int32) (k r i s : Nat) : pI (uI P k0 r0 i0 s0 v) k r i s = if k = k0 ∧ r = r0 ∧ i = i0 ∧ s = s0 then v else pI P k r i s := rfl
theorem pJ_uI (P : gP) (k0 r0 i0 s0 : Nat) (v : Int32) (s : Nat) : pJ (uI P k0 r0 i0 s0 v) s = pJ P s := rfl
theorem pRD_uI (P : gP) (k0 r0 i0 s0 : Nat) (v : Int32) (r i j : Nat) : pRD (uI P k0 r0 i0 s0 v) r i j = pRD P r i j := rfl
theorem pPL_uI (P : gP) (k0 r0 i0 s0 : Nat) (v : Int32) (r i j : Nat) : pPL (uI P k0 r0 i0 s0 v) r i j = pPL P r i j := rfl
theorem pGL_uI (P : gP) (k0 r0 i0 s0 : Nat) (v : Int32) (g : Nat) : pGL (uI P k0 r0 i0 s0 v) g = pGL P g := rfl
theorem pnR_uI (P : gP) (k0 r0 i0 s0 : Nat) (v : Int32)  : pnR (uI P k0 r0 i0 s0 v) = pnR P := rfl
theorem pnG_uI (P : gP) (k0 r0 i0 s0 : Nat) (v : Int32)  : pnG (uI P k0 r0 i0 s0 v) = pnG P := rfl
theorem pnB_uI (P : gP) (k0 r0 i0 s0 : Nat) (v : Int32) (r : Nat) : pnB (uI P k0 r0 i0 s0 v) r = pnB P r := rfl
theorem pnT_uI (P : gP) (k0 r0 i0 s0 : Nat) (v : Int32) (r : Nat) : pnT (uI P k0 r0 i0 s0 v) r = pnT P r := rfl
theorem pnX_uI (P : gP) (k0 r0 i0 s0 : Nat) (v : Int32)  : pnX (uI P k0 r0 i0 s0 v) = pnX P := rfl
theorem pI_uJ (P : gP) (s0 : Nat) (v : Int64) (k r i s : Nat) : pI (uJ P s0 v) k r i s = pI P k r i s := rfl
theorem pJ_uJ (P : gP) (s0 : Nat) (v : Int64) (s : Nat) : pJ (uJ P s0 v) s = if s = s0 then v else pJ P s := rfl
theorem pRD_uJ (P : gP) (s0 : Nat) (v : Int64) (r i j : Nat) : pRD (uJ P s0 v) r i j = pRD P r i j := rfl
theorem pPL_uJ (P : gP) (s0 : Nat) (v : Int64) (r i j : Nat) : pPL (uJ P s0 v) r i j = pPL P r i j := rfl
theorem pGL_uJ (P : gP) (s0 : Nat) (v : Int64) (g : Nat) : pGL (uJ P s0 v) g = pGL P g := rfl
theorem pnR_uJ (P : gP) (s0 : Nat) (v : Int64)  : pnR (uJ P s0 v) = pnR P := rfl
theorem pnG_uJ (P : gP) (s0 : Nat) (v : Int64)  : pnG (uJ P s0 v) = pnG P := rfl
theorem pnB_uJ (P : gP) (s0 : Nat) (v : Int64) (r : Nat) : pnB (uJ P s0 v) r = pnB P r := rfl
theorem pnT_uJ (P : gP) (s0 : Nat) (v : Int64) (r : Nat) : pnT (uJ P s0 v) r = pnT P r := rfl
theorem pnX_uJ (P : gP) (s0 : Nat) (v : Int64)  : pnX (uJ P s0 v) = pnX P := rfl
theorem pI_uRD (P : gP) (r0 i0 j0 : Nat) (v : Option Nat) (k r i s : Nat) : pI (uRD P r0 i0 j0 v) k r i s = pI P k r i s := rfl
theorem pJ_uRD (P : gP) (r0 i0 j0 : Nat) (v : Option Nat) (s : Nat) : pJ (uRD P r0 i0 j0 v) s = pJ P s := rfl
theorem pRD_uRD (P : gP) (r0 i0 j0 : Nat) (v : Option Nat) (r i j : Nat) : pRD (uRD P r0 i0 j0 v) r i j = if r = r0 ∧ i = i0 ∧ j = j0 then v else pRD P r i j := rfl
theorem pPL_uRD (P : gP) (r0 i0 j0 : Nat) (v : Option Nat) (r i j : Nat) : pPL (uRD P r0 i0 j0 v) r i j = pPL P r i j := rfl
theorem pGL_uRD (P : gP) (r0 i0 j0 : Nat) (v : Option Nat) (g : Nat) : pGL (uRD P r0 i0 j0 v) g = pGL P g := rfl
theorem pnR_uRD (P : gP) (r0 i0 j0 : Nat) (v : Option Nat)  : pnR (uRD P r0 i0 j0 v) = pnR P := rfl
theorem pnG_uRD (P : gP) (r0 i0 j0 : Nat) (v : Option Nat)  : pnG (uRD P r0 i0 j0 v) = pnG P := rfl
theorem pnB_uRD (P : gP) (r0 i0 j0 : Nat) (v : Option Nat) (r : Nat) : pnB (uRD P r0 i0 j0 v) r = pnB P r := rfl
theorem pnT_uRD (P : gP) (r0 i0 j0 : Nat) (v : Option Nat) (r : Nat) : pnT (uRD P r0 i0 j0 v) r = pnT P r := rfl
theorem pnX_uRD (P : gP) (r0 i0 j0 : Nat) (v : Option Nat)  : pnX (uRD P r0 i0 j0 v) = pnX P := rfl
theorem pI_uPL (P : gP) (r0 i0 j0 : Nat) (v : Option Nat) (k r i s : Nat) : pI (uPL P r0 i0 j0 v) k r i s = pI P k r i s := rfl
theorem pJ_uPL (P : gP) (r0 i0 j0 : Nat) (v : Option Nat) (s : Nat) : pJ (uPL P r0 i0 j0 v) s = pJ P s := rfl
theorem pRD_uPL (P : gP) (r0 i0 j0 : Nat) (v : Option Nat) (r i j : Nat) : pRD (uPL P r0 i0 j0 v) r i j = pRD P r i j := rfl
theorem pPL_uPL (P : gP) (r0 i0 j0 : Nat) (v : Option Nat) (r i j : Nat) : pPL (uPL P r0 i0 j0 v) r i j = if r = r0 ∧ i = i0 ∧ j = j0 then v else pPL P r i j := rfl
theorem pGL_uPL (P : gP) (r0 i0 j0 : Nat) (v : Option Nat) (g : Nat) : pGL (uPL P r0 i0 j0 v) g = pGL P g := rfl
theorem pnR_uPL (P : gP) (r0 i0 j0 : Nat) (v : Option Nat)  : pnR (uPL P r0 i0 j0 v) = pnR P := rfl
theorem pnG_uPL (P : gP) (r0 i0 j0 : Nat) (v : Option Nat)  : pnG (uPL P r0 i0 j0 v) = pnG P := rfl
theorem pnB_uPL (P : gP) (r0 i0 j0 : Nat) (v : Option Nat) (r : Nat) : pnB (uPL P r0 i0 j0 v) r = pnB P r := rfl
theorem pnT_uPL (P : gP) (r0 i0 j0 : Nat) (v : Option Nat) (r : Nat) : pnT (uPL P r0 i0 j0 v) r = pnT P r := rfl
theorem pnX_uPL (P : gP) (r0 i0 j0 : Nat) (v : Option Nat)  : pnX (uPL P r0 i0 j0 v) = pnX P := rfl
theorem pI_uGL (P : gP) (g0 : Nat) (v : Option (Nat × Nat)) (k r i s : Nat) : pI (uGL P g0 v) k r i s = pI P k r i s := rfl
theorem pJ_uGL (P : gP) (g0 : Nat) (v : Option (Nat × Nat)) (s : Nat) : pJ (uGL P g0 v) s = pJ P s := rfl
theorem pRD_uGL (P : gP) (g0 : Nat) (v : Option (Nat × Nat)) (r i j : Nat) : pRD (uGL P g0 v) r i j = pRD P r i j := rfl
theorem pPL_uGL (P : gP) (g0 : Nat) (v : Option (Nat × Nat)) (r i j : Nat) : pPL (uGL P g0 v) r i j = pPL P r i j := rfl
theorem pGL_uGL (P : gP) (g0 : Nat) (v : Option (Nat × Nat)) (g : Nat) : pGL (uGL P g0 v) g = if g = g0 then v else pGL P g := rfl
theorem pnR_uGL (P : gP) (g0 : Nat) (v : Option (Nat × Nat))  : pnR (uGL P g0 v) = pnR P := rfl
theorem pnG_uGL (P : gP) (g0 : Nat) (v : Option (Nat × Nat))  : pnG (uGL P g0 v) = pnG P := rfl
theorem pnB_uGL (P : gP) (g0 : Nat) (v : Option (Nat × Nat)) (r : Nat) : pnB (uGL P g0 v) r = pnB P r := rfl
theorem pnT_uGL (P : gP) (g0 : Nat) (v : Option (Nat × Nat)) (r : Nat) : pnT (uGL P g0 v) r = pnT P r := rfl
theorem pnX_uGL (P : gP) (g0 : Nat) (v : Option (Nat × Nat))  : pnX (uGL P g0 v) = pnX P := rfl
theorem pI_unR (P : gP) (v : Nat) (k r i s : Nat) : pI (unR P v) k r i s = pI P k r i s := rfl
theorem pJ_unR (P : gP) (v : Nat) (s : Nat) : pJ (unR P v) s = pJ P s := rfl
theorem pRD_unR (P : gP) (v : Nat) (r i j : Nat) : pRD (unR P v) r i j = pRD P r i j := rfl
theorem pPL_unR (P : gP) (v : Nat) (r i j : Nat) : pPL (unR P v) r i j = pPL P r i j := rfl
theorem pGL_unR (P : gP) (v : Nat) (g : Nat) : pGL (unR P v) g = pGL P g := rfl
theorem pnR_unR (P : gP) (v : Nat) : pnR (unR P v) = v := rfl
theorem pnG_unR (P : gP) (v : Nat)  : pnG (unR P v) = pnG P := rfl
theorem pnB_unR (P : gP) (v : Nat) (r : Nat) : pnB (unR P v) r = pnB P r := rfl
theorem pnT_unR (P : gP) (v : Nat) (r : Nat) : pnT (unR P v) r = pnT P r := rfl
theorem pnX_unR (P : gP) (v : Nat)  : pnX (unR P v) = pnX P := rfl
theorem pI_unG (P : gP) (v : Nat) (k r i s : Nat) : pI (unG P v) k r i s = pI P k r i s := rfl
theorem pJ_unG (P : gP) (v : Nat) (s : Nat) : pJ (unG P v) s = pJ P s := rfl
theorem pRD_unG (P : gP) (v : Nat) (r i j : Nat) : pRD (unG P v) r i j = pRD P r i j := rfl
theorem pPL_unG (P : gP) (v : Nat) (r i j : Nat) : pPL (unG P v) r i j = pPL P r i j := rfl
theorem pGL_unG (P : gP) (v : Nat) (g : Nat) : pGL (unG P v) g = pGL P g := rfl
theorem pnR_unG (P : gP) (v : Nat)  : pnR (unG P v) = pnR P := rfl
theorem pnG_unG (P : gP) (v : Nat) : pnG (unG P v) = v := rfl
theorem pnB_unG (P : gP) (v : Nat) (r : Nat) : pnB (unG P v) r = pnB P r := rfl
theorem pnT_unG (P : gP) (v : Nat) (r : Nat) : pnT (unG P v) r = pnT P r := rfl
theorem pnX_unG (P : gP) (v : Nat)  : pnX (unG P v) = pnX P := rfl
theorem pI_unB (P : gP) (r0 : Nat) (v : Nat) (k r i s : Nat) : pI (unB P r0 v) k r i s = pI P k r i s := rfl
theorem pJ_unB (P : gP) (r0 : Nat) (v : Nat) (s : Nat) : pJ (unB P r0 v) s = pJ P s := rfl
theorem pRD_unB (P : gP) (r0 : Nat) (v : Nat) (r i j : Nat) : pRD (unB P r0 v) r i j = pRD P r i j := rfl
theorem pPL_unB (P : gP) (r0 : Nat) (v : Nat) (r i j : Nat) : pPL (unB P r0 v) r i j = pPL P r i j := rfl
theorem pGL_unB (P : gP) (r0 : Nat) (v : Nat) (g : Nat) : pGL (unB P r0 v) g = pGL P g := rfl
theorem pnR_unB (P : gP) (r0 : Nat) (v : Nat)  : pnR (unB P r0 v) = pnR P := rfl
theorem pnG_unB (P : gP) (r0 : Nat) (v : Nat)  : pnG (unB P r0 v) = pnG P := rfl
theorem pnB_unB (P : gP) (r0 : Nat) (v : Nat) (r : Nat) : pnB (unB P r0 v) r = if r = r0 then v else pnB P r := rfl
theorem pnT_unB (P : gP) (r0 : Nat) (v : Nat) (r : Nat) : pnT (unB P r0 v) r = pnT P r := rfl
theorem pnX_unB (P : gP) (r0 : Nat) (v : Nat)  : pnX (unB P r0 v) = pnX P := rfl
theorem pI_unT (P : gP) (r0 : Nat) (v : Nat) (k r i s : Nat) : pI (unT P r0 v) k r i s = pI P k r i s := rfl
theorem pJ_unT (P : gP) (r0 : Nat) (v : Nat) (s : Nat) : pJ (unT P r0 v) s = pJ P s := rfl
theorem pRD_unT (P : gP) (r0 : Nat) (v : Nat) (r i j : Nat) : pRD (unT P r0 v) r i j = pRD P r i j := rfl
theorem pPL_unT (P : gP) (r0 : Nat) (v : Nat) (r i j : Nat) : pPL (unT P r0 v) r i j = pPL P r i j := rfl
theorem pGL_unT (P : gP) (r0 : Nat) (v : Nat) (g : Nat) : pGL (unT P r0 v) g = pGL P g := rfl
theorem pnR_unT (P : gP) (r0 : Nat) (v : Nat)  : pnR (unT P r0 v) = pnR P := rfl
theorem pnG_unT (P : gP) (r0 : Nat) (v : Nat)  : pnG (unT P r0 v) = pnG P := rfl
theorem pnB_unT (P : gP) (r0 : Nat) (v : Nat) (r : Nat) : pnB (unT P r0 v) r = pnB P r := rfl
theorem pnT_unT (P : gP) (r0 : Nat) (v : Nat) (r : Nat) : pnT (unT P r0 v) r = if r = r0 then v else pnT P r := rfl
theorem pnX_unT (P : gP) (r0 : Nat) (v : Nat)  : pnX (unT P r0 v) = pnX P := rfl
theorem pI_unX (P : gP) (v : Nat) (k r i s : Nat) : pI (unX P v) k r i s = pI P k r i s := rfl
theorem pJ_unX (P : gP) (v : Nat) (s : Nat) : pJ (unX P v) s = pJ P s := rfl
theorem pRD_unX (P : gP) (v : Nat) (r i j : Nat) : pRD (unX P v) r i j = pRD P r i j := rfl
theorem pPL_unX (P : gP) (v : Nat) (r i j : Nat) : pPL (unX P v) r i j = pPL P r i j := rfl
theorem pGL_unX (P : gP) (v : Nat) (g : Nat) : pGL (unX P v) g = pGL P g := rfl
theorem pnR_unX (P : gP) (v : Nat)  : pnR (unX P v) = pnR P := rfl
theorem pnG_unX (P : gP) (v : Nat)  : pnG (unX P v) = pnG P := rfl
theorem pnB_unX (P : gP) (v : Nat) (r : Nat) : pnB (unX P v) r = pnB P r := rfl
theorem pnT_unX (P : gP) (v : Nat) (r : Nat) : pnT (unX P v) r = pnT P r := rfl
theorem pnX_unX (P : gP) (v : Nat) : pnX (unX P v) = v := rfl
/-- which objects there are -/
def gLive (P : gP) (k r i : Nat) : Prop := match k with
  | 0 => r < pnR P ∧ i < pnB P r
  | 1 => r < pnG P ∧ i = 0
  | 2 => r < pnR P ∧ i < 3
  | 3 => r < pnR P ∧ i = 0
  | 4 => r < pnR P ∧ i = 0
  | 5 => r < pnR P ∧ i < pnT P r
  | 6 => r = 0 ∧ i = 0
  | 7 => r = 0 ∧ i = 0
  | 8 => r = 0 ∧ i = 0
  | 9 => r = 0 ∧ i = 0
  | 10 => r < pnR P ∧ i = 0
  | 11 => r < pnR P ∧ i = 0
  | 12 => r < pnR P ∧ i < pnT P r
  | 13 => r < pnR P ∧ i < 3
  | 14 => r = 0 ∧ i = 0 ∧ pnX P = 1
  | _ => False
abbrev gAd : Type := Nat → Nat → Nat → Nat
abbrev gRow (f : Nat → Option Nat) : (Nat → Int32) ⊕ (Nat → Int64) ⊕ (Nat → UInt32) ⊕ (Nat → UInt64) ⊕ (Nat → Option Nat) := .inr (.inr (.inr (.inr f)))
/-- what each holds -/
def gCell (cA : Nat → ClassId) (ad : gAd) (P : gP) (k r i : Nat) : va_E := match k with
  | 0 => .inr (2, [.int (pI P 0 r i 0), .int (pI P 0 r i 1), .int (pI P 0 r i 2), .int (pI P 0 r i 3), .int (pI P 0 r i 4), .int (pI P 0 r i 5)])
  | 1 => .inr (3, [.int (pI P 1 r i 0), .int (pI P 1 r i 1), .int (pI P 1 r i 2), .int (pI P 1 r i 3), .int (pI P 1 r i 4), .int (pI P 1 r i 5), .int (pI P 1 r i 6), .int (pI P 1 r i 7), .int (pI P 1 r i 8), va_rf ((pGL P r).map (fun q => ad 2 q.1 q.2)), .int (pI P 1 r i 10)])
  | 2 => .inr (4, [.ref (ad 13 r i), .int (pI P 2 r i 1)])
  | 3 => .inr (5, [.int (pI P 3 r i 0), .int (pI P 3 r i 1), .int (pI P 3 r i 2), .ref (ad 4 r 0), .ref (ad 11 r 0), .int (nI (pnT P r)), .ref (ad 2 r 0), .ref (ad 2 r 1), .ref (ad 2 r 2), .int (pI P 3 r i 9), .int (pI P 3 r i 10), .int (pI P 3 r i 11), .int (pI P 3 r i 12), .int (pI P 3 r i 13), .int (pI P 3 r i 14)])
  | 4 => .inr (6, [.ref (ad 10 r 0), .int (nI (pnB P r)), .int (pI P 4 r i 2)])
  | 5 => .inr (7, [.int (pI P 5 r i 0), .ref (ad 12 r i), .int (pI P 5 r i 2), .int (pI P 5 r i 3), .int (pI P 5 r i 4), .int (pI P 5 r i 5), .int (pI P 5 r i 6), .int (pI P 5 r i 7), .int (pI P 5 r i 8)])
  | 6 => .inr (8, [.ref (ad 7 0 0), .int (nI (pnR P)), .ref (ad 8 0 0), .int (pI P 6 r i 3), .ref (ad 9 0 0), .int (nI (pnG P)), .int (pI P 6 r i 6), .int (pI P 6 r i 7), .int (pI P 6 r i 8), .int (pI P 6 r i 9), .long (pJ P 10), .long (pJ P 11), .long (pJ P 12)])
  | 7 => .inl (cA 0, 4, gRow (fun j => if j < pnR P then some (ad 3 j 0) else none))
  | 8 => .inl (cA 1, 8, .inl (fun j => pI P 8 r i j))
  | 9 => .inl (cA 2, 60, gRow (fun j => if j < pnG P then some (ad 1 j 0) else none))
  | 10 => .inl (cA 3, 12, gRow (fun j => if j < pnB P r then some (ad 0 r j) else none))
  | 11 => .inl (cA 4, 4, gRow (fun j => if j < pnT P r then some (ad 5 r j) else none))
  | 12 => .inl (cA 2, 8, gRow (fun j => (pRD P r i j).map (fun g => ad 1 g 0)))
  | 13 => .inl (cA 2, 60, gRow (fun j => (pPL P r i j).map (fun g => ad 1 g 0)))
  | 14 => .inl (cA 1, 12, .inl (fun j => pI P 14 r i j))
  | _ => .inr (0, [])
/-- the abstract heap holds the state -/
def gRep (Z : gEnv) (ad : gAd) (P : gP) (h : gH) : Prop :=
  (∀ k r i, gLive P k r i → h (ad k r i) = some (gCell Z.2.2.2.1 ad P k r i)) ∧ ∀ k r i k' r' i', gLive P k r i → gLive P k' r' i' → ad k r i = ad k' r' i' → k = k' ∧ r = r' ∧ i = i'
/-- the arrays' classes, and no stack traces -/
def gG (Z : gEnv) : Prop := Z.2.1 = [(Z.2.2.2.1 0, .object "Coasterland$Ride"), (Z.2.2.2.1 1, .int), (Z.2.2.2.1 2, .object "Coasterland$Guest"), (Z.2.2.2.1 3, .object "Coasterland$Block"), (Z.2.2.2.1 4, .object "Coasterland$Train")] ∧ Z.2.2.2.2.stackTraces = false
theorem gG.t0 {Z : gEnv} (G : gG Z) : gTy Z 0 (.object "Coasterland$Ride") := by unfold gTy; rw [G.1]; rfl
theorem gG.t1 {Z : gEnv} (G : gG Z) : gTy Z 1 .int := by unfold gTy; rw [G.1]; rfl
theorem gG.t2 {Z : gEnv} (G : gG Z) : gTy Z 2 (.object "Coasterland$Guest") := by unfold gTy; rw [G.1]; rfl
theorem gG.t3 {Z : gEnv} (G : gG Z) : gTy Z 3 (.object "Coasterland$Block") := by unfold gTy; rw [G.1]; rfl
theorem gG.t4 {Z : gEnv} (G : gG Z) : gTy Z 4 (.object "Coasterland$Train") := by unfold gTy; rw [G.1]; rfl
/-- slots that hold a number of pI -/
def gIntSlot (k j : Nat) : Bool := match k with
  | 0 => decide (j < 6)
  | 1 => decide (j < 9) || decide (j = 10)
  | 2 => decide (j = 1)
  | 3 => decide (j < 3) || (decide (9 ≤ j) && decide (j < 15))
  | 4 => decide (j = 2)
  | 5 => decide (j = 0) || (decide (2 ≤ j) && decide (j < 9))
  | 6 => decide (j = 3) || (decide (6 ≤ j) && decide (j < 10))
  | _ => false
theorem gLive_uI (P : gP) (k0 r0 i0 s0 : Nat) (v : Int32) (k r i : Nat) : gLive (uI P k0 r0 i0 s0 v) k r i = gLive P k r i := rfl
theorem gLive_uJ (P : gP) (s0 : Nat) (v : Int64) (k r i : Nat) : gLive (uJ P s0 v) k r i = gLive P k r i := rfl
theorem gLive_uRD (P : gP) (r0 i0 j0 : Nat) (v : Option Nat) (k r i : Nat) : gLive (uRD P r0 i0 j0 v) k r i = gLive P k r i := rfl
theorem gLive_uPL (P : gP) (r0 i0 j0 : Nat) (v : Option Nat) (k r i : Nat) : gLive (uPL P r0 i0 j0 v) k r i = gLive P k r i := rfl
theorem gLive_uGL (P : gP) (g0 : Nat) (v : Option (Nat × Nat)) (k r i : Nat) : gLive (uGL P g0 v) k r i = gLive P k r i := rfl
theorem gCell_uI_ne {cA : Nat → ClassId} {ad : gAd} {P : gP} {k0 r0 i0 s0 : Nat} {v : Int32} {k r i : Nat} (hne : ¬ (k = k0 ∧ r = r0 ∧ i = i0)) : gCell cA ad (uI P k0 r0 i0 s0 v) k r i = gCell cA ad P k r i := by
  have e : ∀ s, pI (uI P k0 r0 i0 s0 v) k r i s = pI P k r i s := fun s => if_neg (fun hh => hne ⟨hh.1, hh.2.1, hh.2.2.1⟩)
  rcases k with _ | _ | _ | _ | _ | _ | _ | _ | _ | _ | _ | _ | _ | _ | _ | k <;> (try simp only [Nat.zero_add, Nat.reduceAdd] at e) <;> (try simp only [gCell, e, Nat.zero_add, Nat.reduceAdd]) <;> rfl
theorem gCell_uI_eq {cA : Nat → ClassId} {ad : gAd} {P : gP} {k r i j ci : Nat} {v : Int32} {fs : List Value} (hs : gIntSlot k j = true) (hc : gCell cA ad P k r i = .inr (ci, fs)) : gCell cA ad (uI P k r i j v) k r i = .inr (ci, fs.set j (.int v)) ∧ j < fs.length := by
  rcases k with _ | _ | _ | _ | _ | _ | _ | k
  all_goals first
    | (exfalso; simp [gIntSlot] at hs; done)
    | (simp only [Nat.zero_add, Nat.reduceAdd, gCell] at hc
       cases hc
       rcases j with _ | _ | _ | _ | _ | _ | _ | _ | _ | _ | _ | _ | _ | _ | _ | j
       all_goals first
         | (exfalso; revert hs; simp [gIntSlot]; done)
         | (exfalso; revert hs; simp [gIntSlot]; omega)
         | (refine ⟨?_, by simp⟩; simp [gCell, pI_uI, pnT_uI, pnB_uI, pnR_uI, pnG_uI, pJ_uI, pGL_uI]))
theorem gRep.putI {Z : gEnv} {ad : gAd} {P : gP} {h : gH} {k r i j ci : Nat} {v : Int32} {fs : List Value} (hR : gRep Z ad P h) (hl : gLive P k r i) (hs : gIntSlot k j = true) (hc : gCell Z.2.2.2.1 ad P k r i = .inr (ci, fs)) : gRep Z ad (uI P k r i j v) (va_up h (ad k r i) (some (.inr (ci, fs.set j (.int v))))) := by
  refine ⟨fun k' r' i' hl' => ?_, hR.2⟩
  have hl'' : gLive P k' r' i' := hl'
  by_cases he : k' = k ∧ r' = r ∧ i' = i
  · obtain ⟨rfl, rfl, rfl⟩ := he
    rw [(gCell_uI_eq hs hc).1]
    simp [va_up]
  · have hne : ad k' r' i' ≠ ad k r i := fun e => he (hR.2 _ _ _ _ _ _ hl'' hl e)
    simp only [va_up, if_neg hne]
    rw [gCell_uI_ne he]
    exact hR.1 _ _ _ hl''
theorem gRep.chg {Z : gEnv} {ad : gAd} {P P' : gP} {h : gH} {k r i : Nat} {x : va_E} (hR : gRep Z ad P h) (hl : gLive P k r i) (hlv : ∀ k r i, gLive P' k r i = gLive P k r i) (h1 : gCell Z.2.2.2.1 ad P' k r i = x) (h2 : ∀ k' r' i', ¬ (k' = k ∧ r' = r ∧ i' = i) → gLive P k' r' i' → gCell Z.2.2.2.1 ad P' k' r' i' = gCell Z.2.2.2.1 ad P k' r' i') : gRep Z ad P' (va_up h (ad k r i) (some x)) := by
  refine ⟨fun k' r' i' hl' => ?_, fun k r i k' r' i' a b => hR.2 k r i k' r' i' (by rw [← hlv]; exact a) (by rw [← hlv]; exact b)⟩
  have hl'' : gLive P k' r' i' := by rw [← hlv]; exact hl'
  by_cases he : k' = k ∧ r' = r ∧ i' = i
  · obtain ⟨rfl, rfl, rfl⟩ := he
    rw [h1]
    simp [va_up]
  · have hne : ad k' r' i' ≠ ad k r i := fun e => he (hR.2 _ _ _ _ _ _ hl'' hl e)
    simp only [va_up, if_neg hne]
    rw [h2 k' r' i' he hl'']
    exact hR.1 _ _ _ hl''
theorem gCell_uJ_ne {cA : Nat → ClassId} {ad : gAd} {P : gP} {s0 : Nat} {v : Int64} {k r i : Nat} (hne : ¬ (k = 6 ∧ r = 0 ∧ i = 0)) (hl : gLive P k r i) : gCell cA ad (uJ P s0 v) k r i = gCell cA ad P k r i := by
  rcases k with _ | _ | _ | _ | _ | _ | _ | _ | _ | _ | _ | _ | _ | _ | _ | k
  all_goals first
    | rfl
    | exact absurd ⟨rfl, hl⟩ hne
theorem gRep.putJ {Z : gEnv} {ad : gAd} {P : gP} {h : gH} {j : Nat} {v : Int64} {fs : List Value} (hR : gRep Z ad P h) (hs : 10 ≤ j ∧ j < 13) (hc : gCell Z.2.2.2.1 ad P 6 0 0 = .inr (8, fs)) : gRep Z ad (uJ P j v) (va_up h (ad 6 0 0) (some (.inr (8, fs.set j (.long v))))) ∧ j < fs.length := by
  cases hc
  refine ⟨hR.chg ⟨rfl, rfl⟩ (fun _ _ _ => rfl) ?_ (fun k' r' i' h1 h2 => gCell_uJ_ne h1 h2), by simp; omega⟩
  rcases (show j = 10 ∨ j = 11 ∨ j = 12 by omega) with rfl | rfl | rfl <;> simp [gCell, pJ_uJ, pI_uJ, pnR_uJ, pnG_uJ]
theorem gCell_uGL_ne {cA : Nat → ClassId} {ad : gAd} {P : gP} {g0 : Nat} {v : Option (Nat × Nat)} {k r i : Nat} (hne : ¬ (k = 1 ∧ r = g0 ∧ i = 0)) (hl : gLive P k r i) : gCell cA ad (uGL P g0 v) k r i = gCell cA ad P k r i := by
  rcases k with _ | _ | _ | _ | _ | _ | _ | _ | _ | _ | _ | _ | _ | _ | _ | k
  all_goals first
    | rfl
    | (have hl2 : i = 0 := hl.2
       have hr : r ≠ g0 := fun e => hne ⟨rfl, e, hl2⟩
       simp [gCell, pGL_uGL, pI_uGL, hr])
theorem gRep.putGL {Z : gEnv} {ad : gAd} {P : gP} {h : gH} {g : Nat} {v : Option (Nat × Nat)} {fs : List Value} (hR : gRep Z ad P h) (hl : gLive P 1 g 0) (hc : gCell Z.2.2.2.1 ad P 1 g 0 = .inr (3, fs)) : gRep Z ad (uGL P g v) (va_up h (ad 1 g 0) (some (.inr (3, fs.set 9 (va_rf (v.map (fun q => ad 2 q.1 q.2))))))) ∧ 9 < fs.length := by
  cases hc
  refine ⟨hR.chg hl (fun _ _ _ => rfl) ?_ (fun k' r' i' h1 h2 => gCell_uGL_ne h1 h2), by simp⟩
  simp [gCell, pGL_uGL, pI_uGL]
theorem gCell_uRD_ne {cA : Nat → ClassId} {ad : gAd} {P : gP} {r0 i0 j0 : Nat} {v : Option Nat} {k r i : Nat} (hne : ¬ (k = 12 ∧ r = r0 ∧ i = i0)) : gCell cA ad (uRD P r0 i0 j0 v) k r i = gCell cA ad P k r i := by
  have e : k = 12 → ∀ j, pRD (uRD P r0 i0 j0 v) r i j = pRD P r i j := fun hk j => if_neg (fun hh => hne ⟨hk, hh.1, hh.2.1⟩)
  rcases k with _ | _ | _ | _ | _ | _ | _ | _ | _ | _ | _ | _ | _ | _ | _ | k
  all_goals first
    | rfl
    | (simp only [gCell, e rfl]; done)
theorem gRep.astRD {Z : gEnv} {ad : gAd} {P : gP} {h : gH} {r i j : Nat} {v : Option Nat} (hR : gRep Z ad P h) (hl : gLive P 12 r i) : gRep Z ad (uRD P r i j v) (va_up h (ad 12 r i) (some (.inl (Z.2.2.2.1 2, 8, gRow (va_up (fun j => (pRD P r i j).map (fun g => ad 1 g 0)) j (v.map (fun g => ad 1 g 0))))))) := by
  refine hR.chg hl (fun _ _ _ => rfl) ?_ (fun k' r' i' h1 _ => gCell_uRD_ne h1)
  simp only [gCell, gRow]
  congr 7
  funext j'
  by_cases hj : j' = j <;> simp [va_up, pRD_uRD, hj]
theorem gCell_uPL_ne {cA : Nat → ClassId} {ad : gAd} {P : gP} {r0 i0 j0 : Nat} {v : Option Nat} {k r i : Nat} (hne : ¬ (k = 13 ∧ r = r0 ∧ i = i0)) : gCell cA ad (uPL P r0 i0 j0 v) k r i = gCell cA ad P k r i := by
  have e : k = 13 → ∀ j, pPL (uPL P r0 i0 j0 v) r i j = pPL P r i j := fun hk j => if_neg (fun hh => hne ⟨hk, hh.1, hh.2.1⟩)
  rcases k with _ | _ | _ | _ | _ | _ | _ | _ | _ | _ | _ | _ | _ | _ | _ | k
  all_goals first
    | rfl
    | (simp only [gCell, e rfl]; done)
theorem gRep.astPL {Z : gEnv} {ad : gAd} {P : gP} {h : gH} {r i j : Nat} {v : Option Nat} (hR : gRep Z ad P h) (hl : gLive P 13 r i) : gRep Z ad (uPL P r i j v) (va_up h (ad 13 r i) (some (.inl (Z.2.2.2.1 2, 60, gRow (va_up (fun j => (pPL P r i j).map (fun g => ad 1 g 0)) j (v.map (fun g => ad 1 g 0))))))) := by
  refine hR.chg hl (fun _ _ _ => rfl) ?_ (fun k' r' i' h1 _ => gCell_uPL_ne h1)
  simp only [gCell, gRow]
  congr 7
  funext j'
  by_cases hj : j' = j <;> simp [va_up, pPL_uPL, hj]
theorem gRep.astC {Z : gEnv} {ad : gAd} {P : gP} {h : gH} {j : Nat} {v : Int32} (hR : gRep Z ad P h) : gRep Z ad (uI P 8 0 0 j v) (va_up h (ad 8 0 0) (some (.inl (Z.2.2.2.1 1, 8, .inl (upd (fun j => pI P 8 0 0 j) j v))))) := by
  refine hR.chg (k := 8) (r := 0) (i := 0) ⟨rfl, rfl⟩ (fun _ _ _ => rfl) ?_ (fun k' r' i' h1 _ => gCell_uI_ne h1)
  simp only [gCell]
  congr 4
  funext j'
  by_cases hj : j' = j <;> simp [upd, pI_uI, hj]
theorem gRep.astX {Z : gEnv} {ad : gAd} {P : gP} {h : gH} {j : Nat} {v : Int32} (hR : gRep Z ad P h) (hl : gLive P 14 0 0) : gRep Z ad (uI P 14 0 0 j v) (va_up h (ad 14 0 0) (some (.inl (Z.2.2.2.1 1, 12, .inl (upd (fun j => pI P 14 0 0 j) j v))))) := by
  refine hR.chg hl (fun _ _ _ => rfl) ?_ (fun k' r' i' h1 _ => gCell_uI_ne h1)
  simp only [gCell]
  congr 4
  funext j'
  by_cases hj : j' = j <;> simp [upd, pI_uI, hj]
end GSTATE
