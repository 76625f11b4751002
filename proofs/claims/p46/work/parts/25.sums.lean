/-! sums, counts of lists -/
section GSUMS
def sumN : Nat → (Nat → Nat) → Nat
  | 0, _ => 0
  | n + 1, f => sumN n f + f n
theorem sumN_ext {f g : Nat → Nat} : ∀ {n : Nat}, (∀ j, j < n → f j = g j) → sumN n f = sumN n g
  | 0, _ => rfl
  | n + 1, h => by
    unfold sumN
    rw [sumN_ext (fun j hj => h j (by omega)), h n (by omega)]
theorem sumN_add (f g : Nat → Nat) : ∀ n : Nat, sumN n (fun j => f j + g j) = sumN n f + sumN n g
  | 0 => rfl
  | n + 1 => by
    show sumN n (fun j => f j + g j) + (f n + g n) = (sumN n f + f n) + (sumN n g + g n)
    rw [sumN_add f g n]
    omega
theorem sumN_zero : ∀ n : Nat, sumN n (fun _ => 0) = 0
  | 0 => rfl
  | n + 1 => by
    show sumN n (fun _ => 0) + 0 = 0
    rw [sumN_zero n]
theorem sumN_one : ∀ n : Nat, sumN n (fun _ => 1) = n
  | 0 => rfl
  | n + 1 => by
    unfold sumN
    rw [sumN_one n]
theorem sumN_le {f g : Nat → Nat} : ∀ {n : Nat}, (∀ j, j < n → f j ≤ g j) → sumN n f ≤ sumN n g
  | 0, _ => Nat.le_refl _
  | n + 1, h => by
    unfold sumN
    have h1 := sumN_le (n := n) (fun j hj => h j (by omega))
    have h2 := h n (by omega)
    omega
theorem sumN_upd {f g : Nat → Nat} {a : Nat} : ∀ {n : Nat}, a < n → (∀ j, j < n → j ≠ a → f j = g j) → sumN n f + g a = sumN n g + f a
  | 0, h, _ => absurd h (Nat.not_lt_zero _)
  | n + 1, h, h2 => by
    unfold sumN
    by_cases e : a = n
    · subst e
      rw [sumN_ext (f := f) (g := g) (fun j hj => h2 j (by omega) (by omega))]
      omega
    · have h3 := sumN_upd (n := n) (f := f) (g := g) (a := a) (by omega) (fun j hj hn => h2 j (by omega) hn)
      have h4 := h2 n (by omega) (by omega)
      omega
theorem sumN_ge {f : Nat → Nat} {a : Nat} : ∀ {n : Nat}, a < n → f a ≤ sumN n f
  | 0, h => absurd h (Nat.not_lt_zero _)
  | n + 1, h => by
    unfold sumN
    by_cases e : a = n
    · subst e; omega
    · have h3 := sumN_ge (n := n) (f := f) (a := a) (by omega)
      omega
theorem sumN_swap (f : Nat → Nat → Nat) (m : Nat) : ∀ n : Nat, sumN n (fun i => sumN m (fun j => f i j)) = sumN m (fun j => sumN n (fun i => f i j))
  | 0 => by
    show 0 = sumN m (fun _ => 0)
    rw [sumN_zero]
  | n + 1 => by
    have h := sumN_swap f m n
    show sumN n (fun i => sumN m (fun j => f i j)) + sumN m (fun j => f n j) = sumN m (fun j => sumN n (fun i => f i j) + f n j)
    rw [h, ← sumN_add]
theorem sumN_ite {n a : Nat} (h : a < n) : sumN n (fun g => if a = g then 1 else 0) = 1 := by
  have h1 := sumN_upd (f := fun g => if a = g then 1 else 0) (g := fun _ => 0) h (fun j _ hj => if_neg (fun e => hj e.symm))
  rw [sumN_zero] at h1
  simp at h1
  exact h1
theorem sumN_len {n : Nat} : ∀ (l : List Nat), (∀ g ∈ l, g < n) → l.length = sumN n (fun g => l.count g)
  | [], _ => by simp [sumN_zero]
  | a :: l, h => by
    have h1 := sumN_len l (fun g hg => h g (List.mem_cons_of_mem _ hg))
    have h2 := sumN_ite (h a List.mem_cons_self)
    have h3 := sumN_add (fun g => l.count g) (fun g => if a = g then 1 else 0) n
    rw [List.length_cons, h1, ← h2, ← h3]
    refine sumN_ext (fun j _ => ?_)
    rw [List.count_cons]
    simp
theorem list_ext2 {l t : List Nat} {f : Nat → Option Nat} (h1 : ∀ j, f j = l[j]?) (h2 : ∀ j, f j = t[j]?) : l = t := List.ext_getElem? (fun j => (h1 j).symm.trans (h2 j))
theorem count_eraseIdx {x o : Nat} : ∀ {l : List Nat} {k : Nat}, l[k]? = some o → (l.eraseIdx k).count x + (if o = x then 1 else 0) = l.count x
  | [], k, h => by simp at h
  | a :: l, 0, h => by
    simp at h
    subst h
    rw [List.count_cons]
    simp
  | a :: l, k + 1, h => by
    simp at h
    have h2 := count_eraseIdx (x := x) (l := l) (k := k) h
    rw [List.eraseIdx_cons_succ, List.count_cons, List.count_cons]
    omega
theorem count_app {l : List Nat} {o x : Nat} : (l ++ [o]).count x = l.count x + (if o = x then 1 else 0) := by
  rw [List.count_append, List.count_cons]
  simp
theorem count_er {l : List Nat} {o x : Nat} (h : o ∈ l) : (l.erase o).count x + (if o = x then 1 else 0) = l.count x := by
  have h2 := (List.perm_cons_erase h).count_eq x
  rw [h2, List.count_cons]
  simp
/-- one list of the lists changed -/
def updL (LL : Nat → Nat → List Nat) (r q : Nat) (l : List Nat) : Nat → Nat → List Nat := fun r' q' => if r' = r ∧ q' = q then l else LL r' q'
theorem updL_s {LL : Nat → Nat → List Nat} {r q : Nat} {l : List Nat} : updL LL r q l r q = l := if_pos ⟨rfl, rfl⟩
theorem updL_n {LL : Nat → Nat → List Nat} {r q r' q' : Nat} {l : List Nat} (h : ¬ (r' = r ∧ q' = q)) : updL LL r q l r' q' = LL r' q' := if_neg h
set_option maxHeartbeats 4000000 in
theorem ctL_upd {LL : Nat → Nat → List Nat} {r q x : Nat} {l : List Nat} (hr : r < 4) (hq : q < 3) : ctL (updL LL r q l) x 4 + (LL r q).count x = ctL LL x 4 + l.count x := by
  rcases (show r = 0 ∨ r = 1 ∨ r = 2 ∨ r = 3 by omega) with rfl | rfl | rfl | rfl <;> rcases (show q = 0 ∨ q = 1 ∨ q = 2 by omega) with rfl | rfl | rfl <;> simp [ctL, updL] <;> omega
set_option maxHeartbeats 4000000 in
theorem ctR_upd {LL : Nat → Nat → List Nat} {r q x : Nat} {l : List Nat} (hr : r < 4) (hq : q < 4) : ctR (updL LL r q l) x 4 + (LL r q).count x = ctR LL x 4 + l.count x := by
  rcases (show r = 0 ∨ r = 1 ∨ r = 2 ∨ r = 3 by omega) with rfl | rfl | rfl | rfl <;> rcases (show q = 0 ∨ q = 1 ∨ q = 2 ∨ q = 3 by omega) with rfl | rfl | rfl | rfl <;> simp [ctR, ctT, updL] <;> omega
set_option maxHeartbeats 4000000 in
theorem ctL_ge {LL : Nat → Nat → List Nat} {r q x : Nat} (hr : r < 4) (hq : q < 3) : (LL r q).count x ≤ ctL LL x 4 := by
  rcases (show r = 0 ∨ r = 1 ∨ r = 2 ∨ r = 3 by omega) with rfl | rfl | rfl | rfl <;> rcases (show q = 0 ∨ q = 1 ∨ q = 2 by omega) with rfl | rfl | rfl <;> simp [ctL] <;> omega
set_option maxHeartbeats 4000000 in
theorem ctR_ge {LL : Nat → Nat → List Nat} {r q x : Nat} (hr : r < 4) (hq : q < 4) : (LL r q).count x ≤ ctR LL x 4 := by
  rcases (show r = 0 ∨ r = 1 ∨ r = 2 ∨ r = 3 by omega) with rfl | rfl | rfl | rfl <;> rcases (show q = 0 ∨ q = 1 ∨ q = 2 ∨ q = 3 by omega) with rfl | rfl | rfl | rfl <;> simp [ctR, ctT] <;> omega
end GSUMS
