/-! What both sides are held to: pure functions. -/
def tb (k sl r : Int32) : Int32 := if k = nI 1 then r else if k = nI 2 then rm (sl + nI 12 - r) (nI 12) else if k = nI 3 then rm (r - rm r (nI 2) + sl) (nI 12) else if k = nI 4 then rm (nI 2 * r) (nI 12) else rm (r + sl) (nI 12)
def wt (fk fs fn fi : Nat → Int32) (c : Nat) : Int32 := if fn c = -1 ∨ ¬ fi c = nI 0 then -1 else tb (fk c) (fs c) (fn c)
def cuF (fs : Nat → Int32) (cu : Int32) : Nat → Int32 := fun j => if nI j = cu then nI 0 else fs j
def atF (fk fs : Nat → Int32) : Nat → Nat → Int32 → Int32
  | _, 0, v => v
  | k, d + 1, v => atF fk fs (k + 1) d (tb (fk k) (fs k) v)
def srcF (f : Nat → Int32) (x : Int32) : Nat → Int32
  | 0 => nI 0
  | k + 1 => if f k = x then srcF f x k ||| (nI 1 <<< (nI k &&& 31)) else srcF f x k
theorem nI_ne_m1 {j : Nat} (h : j < 2 ^ 31) : ¬ nI j = -1 := by
  intro q
  have h2 := congrArg Int32.toInt q
  rw [nI_toInt h] at h2
  have h3 : (-1 : Int32).toInt = -1 := rfl
  omega
theorem cuF_no {fs : Nat → Int32} {j : Nat} (h : j < 2 ^ 31) : cuF fs (-1) j = fs j := if_neg (nI_ne_m1 h)
theorem atF_cong {fk fk' fs fs' : Nat → Int32} : ∀ (d k : Nat) (v : Int32), (∀ j, k ≤ j → j < k + d → fk j = fk' j ∧ fs j = fs' j) → atF fk fs k d v = atF fk' fs' k d v
  | 0, _, _, _ => rfl
  | d + 1, k, v, h => by
    rw [atF, atF, (h k (Nat.le_refl _) (by omega)).1, (h k (Nat.le_refl _) (by omega)).2]
    exact atF_cong d (k + 1) _ (fun j h1 h2 => h j (by omega) (by omega))
theorem atF_cu {fk fs : Nat → Int32} {k d : Nat} {v : Int32} (h : k + d < 2 ^ 31) : atF fk (cuF fs (-1)) k d v = atF fk fs k d v :=
  atF_cong d k v (fun j _ h2 => ⟨rfl, cuF_no (by omega)⟩)
theorem has_iff {n : Nat} {c : Int32} (hn : n < 2 ^ 31) : inR n c ↔ ¬ c < 0 ∧ ¬ nI n ≤ c := by
  rw [Int32.lt_iff_toInt_lt, Int32.le_iff_toInt_le, nI_toInt hn]
  have h3 : (0 : Int32).toInt = 0 := rfl
  unfold inR
  omega
