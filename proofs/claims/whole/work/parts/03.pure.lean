/-! What both sides are held to: pure functions. -/
def tb (k sl r : Int32) : Int32 := if k = nI 1 then r else if k = nI 2 then rm (sl + nI 12 - r) (nI 12) else if k = nI 3 then rm (r - rm r (nI 2) + sl) (nI 12) else if k = nI 4 then rm (nI 2 * r) (nI 12) else rm (r + sl) (nI 12)
def wt (fk fs fn fi : Nat → Int32) (c : Nat) : Int32 := if fn c = -1 ∨ ¬ fi c = nI 0 then -1 else tb (fk c) (fs c) (fn c)
abbrev ttP (fk fs fn fi : Nat → Int32) (c : Nat) : Prop := 0 < c ∧ fi c = nI 0 ∧ ¬ wt fk fs fn fi (c - 1) = -1
def cuF (fs : Nat → Int32) (cu : Int32) : Nat → Int32 := fun j => if nI j = cu then nI 0 else fs j
def atF (fk fs : Nat → Int32) : Nat → Nat → Int32 → Int32
  | _, 0, v => v
  | k, d + 1, v => atF fk fs (k + 1) d (tb (fk k) (fs k) v)
def srcF (f : Nat → Int32) (x : Int32) : Nat → Int32
  | 0 => nI 0
  | k + 1 => if f k = x then srcF f x k ||| (nI 1 <<< (nI k &&& 31)) else srcF f x k
def unF (f : Nat → Int32) : Nat → Nat
  | 0 => 0
  | k + 1 => if f k = nI k then unF f k + 1 else unF f k
/-- how many rules, known by child 0, arrive as they are -/
def ucF (fk fs : Nat → Int32) (n : Nat) : Nat := unF (fun r => atF fk fs 0 (n - 1) (nI r)) 12
def bcF (g : Nat → Nat) (m0 : Nat) : Nat → Int32 × Nat
  | 0 => (-1, m0)
  | k + 1 => if (bcF g m0 k).2 < g k then (nI k, g k) else bcF g m0 k
/-- an index that runs down to -1 -/
def dn (j : Nat) : Int32 := nI j - nI 1
def soF (fn fi : Nat → Int32) (n : Nat) : Nat → Int32
  | 0 => -1
  | i + 1 => if ¬ fi i = 0 then -1 else if ¬ fn i = -1 then nI (n - 1 - i) else soF fn fi n i
def ttF (fn fi : Nat → Int32) (n : Nat) : Int32 := if n = 0 then -1 else if ¬ fn (n - 1) = -1 then nI 0 else soF fn fi n n
abbrev exP (fc fw ft : Nat → Int32) (k c sl : Int32) (h : Nat) : Prop := ∀ i, i < h → (fc i = c → tb k sl (fw i) = ft i)
def slF (fc fw ft : Nat → Int32) (k c : Int32) (h : Nat) : Nat → Int32
  | 0 => nI 0
  | v + 1 => if exP fc fw ft k c (nI v) h then slF fc fw ft k c h v ||| (nI 1 <<< (nI v &&& 31)) else slF fc fw ft k c h v
def lbF (b k r x : Int32) : Nat → Nat
  | 0 => 0
  | v + 1 => if ((b >>> (nI v &&& 31)) &&& nI 1) = nI 1 ∧ tb k (nI v) r = x then lbF b k r x v + 1 else lbF b k r x v
def wlF (b k r : Int32) (v : Nat) : Nat → Nat
  | 0 => 0
  | a + 1 => Nat.max (wlF b k r v a) (lbF b k r (nI a) v)
def bqF (g : Nat → Nat) : Nat → Int32 × Nat
  | 0 => (-1, 11)
  | r + 1 => if g r < (bqF g r).2 then (nI r, g r) else bqF g r
def bqA (bits x : Int32) : Int32 := if bits = 0 then -1 else x
def kwF (fn : Nat → Int32) : Nat → Nat
  | 0 => 0
  | k + 1 => if fn k = -1 then kwF fn k else kwF fn k + 1
def ulF (fn : Nat → Int32) : Nat → Int32
  | 0 => nI 0
  | k + 1 => if fn k = -1 then ulF fn k else ulF fn k ||| (nI 1 <<< (fn k &&& 31))
def ioF (fi : Nat → Int32) : Nat → Nat
  | 0 => 0
  | k + 1 => if fi k = 0 then ioF fi k else ioF fi k + 1
def htF (fk fs fi : Nat → Int32) : Nat → (Nat → Int32) → Nat → (Nat → Int32) × Nat
  | 0, fn, t => (fn, t)
  | k + 1, fn, t => if ttP fk fs fn fi (k + 1) then htF fk fs fi k (upd fn (k + 1) (wt fk fs fn fi k)) (t + 1) else htF fk fs fi k fn t
def nx (x : Nat) : Nat := (1103515245 * x + 12345) % 2147483648
def ilF (q n : Nat) (fi : Nat → Int32) : Nat → Int32 := fun i => if i < n then (if i = q then nI 1 else nI 0) else fi i
theorem nI_ne_m1 {j : Nat} (h : j < 2 ^ 31) : ¬ nI j = -1 := by
  intro q
  have h2 := congrArg Int32.toInt q
  rw [nI_toInt h] at h2
  have h3 : (-1 : Int32).toInt = -1 := rfl
  omega
theorem cuF_no {fs : Nat → Int32} {j : Nat} (h : j < 2 ^ 31) : cuF fs (-1) j = fs j := if_neg (nI_ne_m1 h)
theorem atF_cong {fk fk' fs fs' : Nat → Int32} : ∀ (d k : Nat) (v : Int32), (∀ j, k ≤ j → j < k + d → fk j = fk' j ∧ fs j = fs' j) → atF fk fs k d v = atF fk' fs' k d v
  | 0, _, _, _ => rfl
  | d + 1, k, v, h => by
    rw [atF, atF, (h k (Nat.le_refl _) (by omega)).1, (h k (Nat.le_refl _) (by omega)).2]
    exact atF_cong d (k + 1) _ (fun j h1 h2 => h j (by omega) (by omega))
theorem atF_cu {fk fs : Nat → Int32} {k d : Nat} {v : Int32} (h : k + d < 2 ^ 31) : atF fk (cuF fs (-1)) k d v = atF fk fs k d v :=
  atF_cong d k v (fun j _ h2 => ⟨rfl, cuF_no (by omega)⟩)
theorem ucF_cong {fk fk' fs fs' : Nat → Int32} {n : Nat} (h : ∀ j, j < n → fk j = fk' j ∧ fs j = fs' j) : ucF fk fs n = ucF fk' fs' n := by
  unfold ucF
  congr 1
  funext r
  exact atF_cong (n - 1) 0 (nI r) (fun j _ h2 => h j (by omega))
theorem ucF_no {fk fs : Nat → Int32} {n : Nat} (h : n ≤ 6) : ucF fk (cuF fs (-1)) n = ucF fk fs n :=
  ucF_cong (fun j hj => ⟨rfl, cuF_no (by omega)⟩)
theorem has_iff {n : Nat} {c : Int32} (hn : n < 2 ^ 31) : inR n c ↔ ¬ c < 0 ∧ ¬ nI n ≤ c := by
  rw [inR_def, Int32.lt_iff_toInt_lt, Int32.le_iff_toInt_le, nI_toInt hn]
  have h3 : (0 : Int32).toInt = 0 := rfl
  omega
theorem dn_s {i : Nat} : dn (i + 1) = nI i := nI_pred i
theorem dn_top {n : Nat} (h : 1 ≤ n) : nI (n - 1) = dn n := by
  obtain ⟨i, rfl⟩ : ∃ i, n = i + 1 := ⟨n - 1, by omega⟩
  exact dn_s.symm
theorem dn_b {i : Nat} : nI i + Int32.ofInt (-1) = dn i := by
  show nI i + Int32.ofInt (-1) = nI i - nI 1
  rw [Int32.sub_eq_add_neg]
  rfl
theorem dn_0 : dn 0 = -1 := rfl
theorem dn_pos {j : Nat} (h : ¬ dn j < 0) (hj : j < 2 ^ 31) : ∃ i, j = i + 1 := by
  cases j with
  | zero => exact absurd (by decide) h
  | succ i => exact ⟨i, rfl⟩
theorem dn_neg {j : Nat} (h : dn j < 0) (hj : j < 2 ^ 31) : j = 0 := by
  cases j with
  | zero => rfl
  | succ i => rw [dn_s] at h; exact absurd h (nI_pos (by omega))
theorem lbF_le {b k r x : Int32} {v : Nat} : lbF b k r x v ≤ v := by
  induction v with
  | zero => exact Nat.le_refl _
  | succ v ih => rw [lbF]; split <;> omega
theorem wlF_le {b k r : Int32} {v a : Nat} : wlF b k r v a ≤ v := by
  induction a with
  | zero => exact Nat.zero_le _
  | succ a ih => rw [wlF]; exact Nat.max_le.mpr ⟨ih, lbF_le⟩
theorem w_max {x y : Nat} (hx : x < 2 ^ 31) (hy : y < 2 ^ 31) : (if nI x < nI y then nI y else nI x) = nI (Nat.max x y) := by
  by_cases h : x < y
  · rw [if_pos ((nI_ltI hx hy).mpr h), show Nat.max x y = y from Nat.max_eq_right (Nat.le_of_lt h)]
  · rw [if_neg (fun q => h ((nI_ltI hx hy).mp q)), show Nat.max x y = x from Nat.max_eq_left (Nat.le_of_not_lt h)]
theorem w_min {x y : Nat} (hx : x < 2 ^ 31) (hy : y < 2 ^ 31) : (if nI y < nI x then nI y else nI x) = nI (Nat.min x y) := by
  by_cases h : y < x
  · rw [if_pos ((nI_ltI hy hx).mpr h), show Nat.min x y = y from Nat.min_eq_right (Nat.le_of_lt h)]
  · rw [if_neg (fun q => h ((nI_ltI hy hx).mp q)), show Nat.min x y = x from Nat.min_eq_left (Nat.le_of_not_lt h)]
theorem bqA0 {bits : Int32} {g : Nat → Nat} {k : Nat} (h : bits = 0) (hb : k = 0 ∨ ¬ bits = 0) : (bqF g k).1 = bqA bits (bqF g 12).1 := by
  rcases hb with rfl | hb
  · rw [bqA, if_pos h]; rfl
  · exact absurd h hb
theorem bqA1 {bits : Int32} {g : Nat → Nat} {k : Nat} (h : k = 12) (hb : k = 0 ∨ ¬ bits = 0) : (bqF g k).1 = bqA bits (bqF g 12).1 := by
  subst h
  rcases hb with hb | hb
  · exact absurd hb (by decide)
  · rw [bqA, if_neg hb]
theorem htF_t {fk fs fi fn : Nat → Int32} {k t : Nat} (h : ttP fk fs fn fi (k + 1)) : htF fk fs fi (k + 1) fn t = htF fk fs fi k (upd fn (k + 1) (wt fk fs fn fi k)) (t + 1) := by
  rw [htF, if_pos h]
theorem htF_f {fk fs fi fn : Nat → Int32} {k t : Nat} (h : ¬ ttP fk fs fn fi (k + 1)) : htF fk fs fi (k + 1) fn t = htF fk fs fi k fn t := by
  rw [htF, if_neg h]
theorem ilF_0 {q : Nat} {fi : Nat → Int32} : ilF q 0 fi = fi := by
  funext i
  simp [ilF]
theorem ilF_t {q k : Nat} {fi : Nat → Int32} (h : k = q) : upd (ilF q k fi) k (nI 1) = ilF q (k + 1) fi := by
  funext i
  unfold upd ilF
  by_cases h1 : i = k
  · subst h1; rw [if_pos rfl, if_pos (Nat.lt_succ_self _), if_pos h]
  · rw [if_neg h1]
    by_cases h2 : i < k
    · rw [if_pos h2, if_pos (show i < k + 1 by omega)]
    · rw [if_neg h2, if_neg (show ¬ i < k + 1 by omega)]
theorem ilF_f {q k : Nat} {fi : Nat → Int32} (h : ¬ k = q) : upd (ilF q k fi) k (nI 0) = ilF q (k + 1) fi := by
  funext i
  unfold upd ilF
  by_cases h1 : i = k
  · subst h1; rw [if_pos rfl, if_pos (Nat.lt_succ_self _), if_neg h]
  · rw [if_neg h1]
    by_cases h2 : i < k
    · rw [if_pos h2, if_pos (show i < k + 1 by omega)]
    · rw [if_neg h2, if_neg (show ¬ i < k + 1 by omega)]
theorem nx_lt {x : Nat} : nx x < 2147483648 := Nat.mod_lt _ (by decide)
theorem nx_eq {x : Nat} (h : x < 2147483648) : ((((1103515245 : Int64)) * (lN x)) + ((12345 : Int64))) - ((((1103515245 : Int64)) * (lN x)) + ((12345 : Int64))) / ((2147483648 : Int64)) * ((2147483648 : Int64)) = lN (nx x) := by
  rw [show (1103515245 : Int64) = lN 1103515245 from rfl, show (12345 : Int64) = lN 12345 from rfl, show (2147483648 : Int64) = lN 2147483648 from rfl, lN_mul, lN_add]
  rw [pk_lRem (by omega) (by decide) (by decide)]
  rfl
theorem nx_draw {x o : Nat} (h : x < 2147483648) (h1 : 1 ≤ o) (ho : o < 2147483648) : Int64.toInt32 (((lN (nx x)) / ((65536 : Int64))) - ((lN (nx x)) / ((65536 : Int64))) / (lN o) * (lN o)) = nI (nx x / 65536 % o) := by
  have hx := nx_lt (x := x)
  rw [show (65536 : Int64) = lN 65536 from rfl, pk_lDiv (by omega) (by decide) (by decide), pk_lRem (by omega) (by omega) (by omega), lN_i]
theorem unF_le {f : Nat → Int32} {k : Nat} : unF f k ≤ k := by
  induction k with
  | zero => exact Nat.le_refl _
  | succ k ih => rw [unF]; split <;> omega
theorem ucF_le {fk fs : Nat → Int32} {n : Nat} : ucF fk fs n ≤ 12 := unF_le
theorem bcF_le {fk fs : Nat → Int32} {n k : Nat} : (bcF (fun i => ucF fk (cuF fs (nI i)) n) (ucF fk fs n) k).2 ≤ 12 := by
  induction k with
  | zero => exact ucF_le
  | succ k ih =>
    rw [bcF]
    split
    · exact ucF_le
    · exact ih
theorem bqF_le {g : Nat → Nat} {k : Nat} : (bqF g k).2 ≤ 11 := by
  induction k with
  | zero => exact Nat.le_refl _
  | succ k ih =>
    rw [bqF]
    split
    · rename_i h
      show g k ≤ 11
      omega
    · exact ih
abbrev ix (c : Int32) : Nat := c.toNatClampNeg
def gd (n : Nat) (c r x : Int32) : Int32 := if inR n c then (if inR 12 r then x else -102) else -101
theorem gd_in {n : Nat} {c r : Int32} (h : gd n c r (nI 0) = 0) : inR n c ∧ inR 12 r := by
  unfold gd at h
  by_cases h1 : inR n c
  · rw [if_pos h1] at h
    by_cases h2 : inR 12 r
    · exact ⟨h1, h2⟩
    · rw [if_neg h2] at h; exact absurd h (by decide)
  · rw [if_neg h1] at h; exact absurd h (by decide)
theorem gd_ok {n : Nat} {c r : Int32} (h : gd n c r (nI 0) = 0) : (∃ k, k < n ∧ c = nI k) ∧ (∃ q, q < 12 ∧ r = nI q) := ⟨inR_of (gd_in h).1, inR_of (gd_in h).2⟩
theorem gd_no {n : Nat} {c r x : Int32} (h : ¬ gd n c r (nI 0) = 0) : gd n c r (nI 0) = gd n c r x := by
  unfold gd at h ⊢
  by_cases h1 : inR n c
  · rw [if_pos h1, if_pos h1]
    by_cases h2 : inR 12 r
    · rw [if_pos h1, if_pos h2] at h; exact absurd rfl h
    · rw [if_neg h2, if_neg h2]
  · rw [if_neg h1, if_neg h1]
theorem gd_yes {n k q : Nat} {x : Int32} (hk : k < n) (hn : n < 2 ^ 31) (hq : q < 12) : gd n (nI k) (nI q) x = x := by
  unfold gd
  rw [if_pos (inR_nI hk (by omega)), if_pos (inR_nI hq (by omega))]
def tellN (n : Nat) (fn : Nat → Int32) (c r : Int32) : Nat → Int32 := if inR n c ∧ inR 12 r then upd fn (ix c) r else fn
theorem tellN_no {n : Nat} {fn : Nat → Int32} {c r : Int32} (h : ¬ gd n c r (nI 0) = 0) : fn = tellN n fn c r := by
  unfold tellN
  rw [if_neg]
  intro q
  apply h
  unfold gd
  rw [if_pos q.1, if_pos q.2]
  rfl
theorem tellN_yes {n k q : Nat} {fn : Nat → Int32} (hk : k < n) (hn : n < 2 ^ 31) (hq : q < 12) : upd fn k (nI q) = tellN n fn (nI k) (nI q) := by
  unfold tellN
  rw [if_pos ⟨inR_nI hk (by omega), inR_nI hq (by omega)⟩, ix, cl_nI (by omega)]
theorem lt5_iff {k : Nat} {x : Int32} (hk : k < 2 ^ 31) : inR k x ↔ ¬ (x < 0 ∨ ¬ x < nI k) := by
  rw [has_iff hk]
  constructor
  · rintro ⟨h1, h2⟩ (q | q)
    · exact h1 q
    · exact h2 (Int32.not_lt.mp q)
  · intro h
    exact ⟨fun q => h (Or.inl q), fun q => h (Or.inr (Int32.not_lt.mpr q))⟩
def asF (n : Nat) (fk : Nat → Int32) (c k : Int32) : Int32 := if inR n c then (if inR 5 k then (if k = nI 0 ∨ fk (ix c) = k ∨ (fk (ix c) = nI 4 ∧ k = nI 1) then c else -1) else -102) else -101
theorem asF_o {n k : Nat} {fk : Nat → Int32} {x : Int32} (hk : k < n) (hn : n < 2 ^ 31) (h : x < 0 ∨ ¬ x < nI 5) : -102 = asF n fk (nI k) x := by
  unfold asF
  rw [if_pos (inR_nI hk (by omega)), if_neg (fun q => (lt5_iff (by decide)).mp q h)]
theorem asF_y {n k : Nat} {fk : Nat → Int32} {x : Int32} (hk : k < n) (hn : n < 2 ^ 31) (h1 : ¬ x < 0) (h2 : x < nI 5) (h : x = nI 0 ∨ fk k = x ∨ (fk k = nI 4 ∧ x = nI 1)) : nI k = asF n fk (nI k) x := by
  unfold asF
  rw [if_pos (inR_nI hk (by omega)), if_pos ((lt5_iff (by decide)).mpr (by rintro (q | q); exact h1 q; exact q h2)), ix, cl_nI (by omega), if_pos h]
theorem asF_n {n k : Nat} {fk : Nat → Int32} {x : Int32} (hk : k < n) (hn : n < 2 ^ 31) (h1 : ¬ x < 0) (h2 : x < nI 5) (h : ¬ (x = nI 0 ∨ fk k = x ∨ (fk k = nI 4 ∧ x = nI 1))) : -1 = asF n fk (nI k) x := by
  unfold asF
  rw [if_pos (inR_nI hk (by omega)), if_pos ((lt5_iff (by decide)).mpr (by rintro (q | q); exact h1 q; exact q h2)), ix, cl_nI (by omega), if_neg h]
def illA (n : Nat) (fi : Nat → Int32) (c : Int32) : Int32 := if inR n c then (if fi (ix c) = 0 then nI 0 else nI 1) else -101
def illN (n : Nat) (fi : Nat → Int32) (c z : Int32) : Nat → Int32 := if inR n c then upd fi (ix c) z else fi
def slipA (n : Nat) (fs : Nat → Int32) (c v : Int32) : Int32 := if inR n c then (if inR 10 v then fs (ix c) else -102) else -101
def slipN (n : Nat) (fs : Nat → Int32) (c v : Int32) : Nat → Int32 := if inR n c ∧ inR 10 v then upd fs (ix c) v else fs
theorem slipA_o {n k : Nat} {fs : Nat → Int32} {x : Int32} (hk : k < n) (hn : n < 2 ^ 31) (h : x < 0 ∨ ¬ x < nI 10) : -102 = slipA n fs (nI k) x := by
  unfold slipA
  rw [if_pos (inR_nI hk (by omega)), if_neg (fun q => (lt5_iff (by decide)).mp q h)]
theorem slipA_y {n k : Nat} {fs : Nat → Int32} {x : Int32} (hk : k < n) (hn : n < 2 ^ 31) (h1 : ¬ x < 0) (h2 : x < nI 10) : fs k = slipA n fs (nI k) x := by
  unfold slipA
  rw [if_pos (inR_nI hk (by omega)), if_pos ((lt5_iff (by decide)).mpr (by rintro (q | q); exact h1 q; exact q h2)), ix, cl_nI (by omega)]
theorem slipN_o {n : Nat} {fs : Nat → Int32} {c x : Int32} (h : x < 0 ∨ ¬ x < nI 10) : fs = slipN n fs c x := by
  unfold slipN
  rw [if_neg (fun q => (lt5_iff (by decide)).mp q.2 h)]
theorem slipN_y {n k : Nat} {fs : Nat → Int32} {x : Int32} (hk : k < n) (hn : n < 2 ^ 31) (h1 : ¬ x < 0) (h2 : x < nI 10) : upd fs k x = slipN n fs (nI k) x := by
  unfold slipN
  rw [if_pos ⟨inR_nI hk (by omega), (lt5_iff (by decide)).mpr (by rintro (q | q); exact h1 q; exact q h2)⟩, ix, cl_nI (by omega)]
def thA (n : Nat) (g : (Nat → Int32) × Nat) : Int32 := if n = 0 then -103 else nI g.2
def thN (n : Nat) (fn : Nat → Int32) (g : (Nat → Int32) × Nat) : Nat → Int32 := if n = 0 then fn else g.1
def thT (n : Nat) (th : Int32) : Int32 := if n = 0 then th else th + nI 1
def thS (n : Nat) (tt : Int32) (g : (Nat → Int32) × Nat) : Int32 := if n = 0 then tt else tt + nI g.2
def soonA (fn fi : Nat → Int32) (n : Nat) : Int32 := if n = 0 then -103 else ttF fn fi n
def cureA (n : Nat) (fk fs : Nat → Int32) (w : Int32) : Int32 := if inR 2 w then (if n = 0 then -103 else if w = nI 0 then (bcF (fun i => ucF fk (cuF fs (nI i)) n) (ucF fk fs n) n).1 else nI (ucF fk (cuF fs (bcF (fun i => ucF fk (cuF fs (nI i)) n) (ucF fk fs n) n).1) n)) else -102
theorem le1_iff {w : Int32} : inR 2 w ↔ ¬ (w < 0 ∨ ¬ w ≤ nI 1) := by
  rw [lt5_iff (by decide), Int32.lt_iff_toInt_lt, Int32.lt_iff_toInt_lt, Int32.le_iff_toInt_le, nI_toInt (show 1 < 2 ^ 31 by decide), nI_toInt (show 2 < 2 ^ 31 by decide)]
  have h3 : (0 : Int32).toInt = 0 := rfl
  omega
theorem cureA_o {n : Nat} {fk fs : Nat → Int32} {w : Int32} (h : w < 0 ∨ ¬ w ≤ nI 1) : -102 = cureA n fk fs w := by
  unfold cureA
  rw [if_neg (fun q => le1_iff.mp q h)]
theorem cureA_s {n : Nat} {fk fs : Nat → Int32} {w : Int32} (h1 : ¬ w < 0) (h2 : w ≤ nI 1) (h : n = 0) : -103 = cureA n fk fs w := by
  unfold cureA
  rw [if_pos (le1_iff.mpr (by rintro (q | q); exact h1 q; exact q h2)), if_pos h]
theorem cureA_0 {n : Nat} {fk fs : Nat → Int32} {w : Int32} (h1 : ¬ w < 0) (h2 : w ≤ nI 1) (h : ¬ n = 0) (h3 : w = 0) : (bcF (fun i => ucF fk (cuF fs (nI i)) n) (ucF fk fs n) n).1 = cureA n fk fs w := by
  unfold cureA
  rw [if_pos (le1_iff.mpr (by rintro (q | q); exact h1 q; exact q h2)), if_neg h, if_pos (show w = nI 0 from h3)]
theorem cureA_1 {n : Nat} {fk fs : Nat → Int32} {w : Int32} (h1 : ¬ w < 0) (h2 : w ≤ nI 1) (h : ¬ n = 0) (h3 : ¬ w = 0) : nI (ucF fk (cuF fs (bcF (fun i => ucF fk (cuF fs (nI i)) n) (ucF fk fs n) n).1) n) = cureA n fk fs w := by
  unfold cureA
  rw [if_pos (le1_iff.mpr (by rintro (q | q); exact h1 q; exact q h2)), if_neg h, if_neg (show ¬ w = nI 0 from h3)]
def hearA (n h : Nat) (c kw tg : Int32) : Int32 := if inR n c then (if inR 12 kw then (if inR 12 tg then (if 8 ≤ h then -104 else nI (h + 1)) else -102) else -102) else -101
def hearF (n h : Nat) (c kw tg : Int32) (f : Nat → Int32) (x : Int32) : Nat → Int32 := if inR n c ∧ inR 12 kw ∧ inR 12 tg ∧ ¬ 8 ≤ h then upd f h x else f
def hearH (n h : Nat) (c kw tg : Int32) : Nat := if inR n c ∧ inR 12 kw ∧ inR 12 tg ∧ ¬ 8 ≤ h then h + 1 else h
theorem hearA_0 {n h : Nat} {c kw tg : Int32} (q : ¬ gd n c kw (nI 0) = 0) : gd n c kw (nI 0) = hearA n h c kw tg := gd_no q
theorem gd_not {n : Nat} {c r : Int32} (h : ¬ gd n c r (nI 0) = 0) : ¬ (inR n c ∧ inR 12 r) := by
  intro q
  apply h
  unfold gd
  rw [if_pos q.1, if_pos q.2]
  rfl
theorem hearF_0 {n h : Nat} {c kw tg : Int32} {f : Nat → Int32} {x : Int32} (q : ¬ gd n c kw (nI 0) = 0) : f = hearF n h c kw tg f x := by
  unfold hearF
  rw [if_neg (fun z => gd_not q ⟨z.1, z.2.1⟩)]
theorem hearH_0 {n h : Nat} {c kw tg : Int32} (q : ¬ gd n c kw (nI 0) = 0) : nI h = nI (hearH n h c kw tg) := by
  unfold hearH
  rw [if_neg (fun z => gd_not q ⟨z.1, z.2.1⟩)]
abbrev letP (cd : Int32) : Prop := ¬ cd < nI 1 ∧ cd ≤ nI 126
def letA (pn : Nat) (cd : Int32) : Int32 := if letP cd then (if 20 ≤ pn then -104 else nI (pn + 1)) else -102
def letG (pn : Nat) (cd : Int32) (pg : Nat → Int32) : Nat → Int32 := if letP cd ∧ ¬ 20 ≤ pn then upd pg pn cd else pg
def letN (pn : Nat) (cd : Int32) : Nat := if letP cd ∧ ¬ 20 ≤ pn then pn + 1 else pn
theorem letA_o {pn : Nat} {cd : Int32} (h : cd < nI 1 ∨ ¬ cd ≤ nI 126) : -102 = letA pn cd := by
  unfold letA
  rw [if_neg (fun q => h.elim q.1 (fun z => z q.2))]
theorem letA_f {pn : Nat} {cd : Int32} (h1 : ¬ cd < nI 1) (h2 : cd ≤ nI 126) (h : 20 ≤ pn) : -104 = letA pn cd := by
  unfold letA
  rw [if_pos ⟨h1, h2⟩, if_pos h]
theorem letA_y {pn : Nat} {cd : Int32} (h1 : ¬ cd < nI 1) (h2 : cd ≤ nI 126) (h : ¬ 20 ≤ pn) : nI (pn + 1) = letA pn cd := by
  unfold letA
  rw [if_pos ⟨h1, h2⟩, if_neg h]
theorem letG_o {pn : Nat} {cd : Int32} {pg : Nat → Int32} (h : cd < nI 1 ∨ ¬ cd ≤ nI 126) : pg = letG pn cd pg := by
  unfold letG
  rw [if_neg (fun q => h.elim q.1.1 (fun z => z q.1.2))]
theorem letG_f {pn : Nat} {cd : Int32} {pg : Nat → Int32} (h : 20 ≤ pn) : pg = letG pn cd pg := by
  unfold letG
  rw [if_neg (fun q => q.2 h)]
theorem letG_y {pn : Nat} {cd : Int32} {pg : Nat → Int32} (h1 : ¬ cd < nI 1) (h2 : cd ≤ nI 126) (h : ¬ 20 ≤ pn) : upd pg pn cd = letG pn cd pg := by
  unfold letG
  rw [if_pos ⟨⟨h1, h2⟩, h⟩]
theorem letN_o {pn : Nat} {cd : Int32} (h : cd < nI 1 ∨ ¬ cd ≤ nI 126) : nI pn = nI (letN pn cd) := by
  unfold letN
  rw [if_neg (fun q => h.elim q.1.1 (fun z => z q.1.2))]
theorem letN_f {pn : Nat} {cd : Int32} (h : 20 ≤ pn) : nI pn = nI (letN pn cd) := by
  unfold letN
  rw [if_neg (fun q => q.2 h)]
theorem letN_y {pn : Nat} {cd : Int32} (h1 : ¬ cd < nI 1) (h2 : cd ≤ nI 126) (h : ¬ 20 ≤ pn) : nI (pn + 1) = nI (letN pn cd) := by
  unfold letN
  rw [if_pos ⟨⟨h1, h2⟩, h⟩]
theorem ix_nI {k : Nat} (h : k < 2147483648) : ix (nI k) = k := nI_clamp h
def bc1 (x : Int32) : Int32 := x - ((((x).toUInt32 >>> ((nI 1).toUInt32 &&& Int32.toUInt32 31)).toInt32) &&& (1431655765 : Int32))
def bc2 (x : Int32) : Int32 := (x &&& (858993459 : Int32)) + ((((x).toUInt32 >>> ((nI 2).toUInt32 &&& Int32.toUInt32 31)).toInt32) &&& (858993459 : Int32))
def bc3 (x : Int32) : Int32 := (x + (((x).toUInt32 >>> ((nI 4).toUInt32 &&& Int32.toUInt32 31)).toInt32)) &&& (252645135 : Int32)
def bc4 (x : Int32) : Int32 := x + (((x).toUInt32 >>> ((nI 8).toUInt32 &&& Int32.toUInt32 31)).toInt32)
def bc5 (x : Int32) : Int32 := x + (((x).toUInt32 >>> ((nI 16).toUInt32 &&& Int32.toUInt32 31)).toInt32)
def bcx (x : Int32) : Int32 := bc5 (bc4 (bc3 (bc2 (bc1 x)))) &&& nI 63
def chF (n h : Nat) (fk fs fn fi fc fw ft : Nat → Int32) (c w : Int32) : Int32 := if inR n c then (if w = nI 0 then fk (ix c) else if w = nI 1 then fs (ix c) else if w = nI 2 then fn (ix c) else if w = nI 3 then (if fi (ix c) = 0 then nI 0 else nI 1) else if w = nI 4 then wt fk fs fn fi (ix c) else if w = nI 5 then slF fc fw ft (fk (ix c)) c h 10 else if w = nI 6 then bqA (slF fc fw ft (fk (ix c)) c h 10) (bqF (fun r => wlF (slF fc fw ft (fk (ix c)) c h 10) (fk (ix c)) (nI r) 10 12) 12).1 else -102) else -101
def ctF (n h : Nat) (th tt sr : Int32) (pn : Nat) (fn fi fk fs : Nat → Int32) (u w : Int32) : Int32 := if w = nI 0 then nI n else if w = nI 1 then nI (kwF fn n) else if w = nI 2 then u else if w = nI 3 then nI (ioF fi n) else if w = nI 4 then th else if w = nI 5 then tt else if w = nI 6 then (if n = 0 then nI 0 else nI (ucF fk fs n)) else if w = nI 7 then nI h else if w = nI 8 then nI pn else if w = nI 9 then sr else -102
def hF (a b : Int64) : Int64 := (31 : Int64) * a + b
def fdF (f : Nat → Int32) (z : Int64) : Nat → Int64
  | 0 => z
  | k + 1 => hF (fdF f z k) (Int32.toInt64 (f k))
def wcF (n h : Nat) (fk fs fn fi fc fw ft : Nat → Int32) (c : Nat) (a : Int64) : Int64 :=
  hF (hF (hF (hF (fdF (fun w => chF n h fk fs fn fi fc fw ft (nI c) (nI w)) a 7) (Int32.toInt64 (atF fk fs c (n - 1 - c) (nI 0)))) (Int32.toInt64 (atF fk fs c (n - 1 - c) (nI 1)))) (Int32.toInt64 (atF fk fs c (n - 1 - c) (nI 5)))) (Int32.toInt64 (srcF (fun q => atF fk fs c (n - 1 - c) (nI q)) (nI 3) 12))
def foldH (g : Nat → Int64 → Int64) (z : Int64) : Nat → Int64
  | 0 => z
  | k + 1 => g k (foldH g z k)
def dg2 (n : Nat) (fk fs fn fi : Nat → Int32) (z : Int64) : Int64 := if n = 0 then z else hF (hF (hF z (Int32.toInt64 (soonA fn fi n))) (Int32.toInt64 (cureA n fk fs (nI 0)))) (Int32.toInt64 (cureA n fk fs (nI 1)))
def tmb (a b w : Int32) : Bool := decide ((1 ≤ a.toInt ∧ a.toInt ≤ 60) ∧ 0 ≤ b.toInt ∧ 0 ≤ w.toInt ∧ w.toInt ≤ 2)
abbrev tmP (n : Nat) (a b w : Int32) : Prop := tmb a b w = true ∧ ¬ n = 0
def teS (fk fs : Nat → Int32) (n : Nat) (fn fi : Nat → Int32) (x : Nat) : Nat → (Nat → Int32) × (Nat → Int32) × Nat × Nat × Nat
  | 0 => (fn, fi, x, 0, 0)
  | k + 1 => ((htF fk fs (ilF (nx (nx (teS fk fs n fn fi x k).2.2.1) / 65536 % (n + 1)) n (teS fk fs n fn fi x k).2.1) (n - 1) (upd (teS fk fs n fn fi x k).1 0 (nI (nx (teS fk fs n fn fi x k).2.2.1 / 65536 % 12))) 0).1,
     ilF (nx (nx (teS fk fs n fn fi x k).2.2.1) / 65536 % (n + 1)) n (teS fk fs n fn fi x k).2.1,
     nx (nx (teS fk fs n fn fi x k).2.2.1),
     if ttP fk fs (upd (teS fk fs n fn fi x k).1 0 (nI (nx (teS fk fs n fn fi x k).2.2.1 / 65536 % 12))) (ilF (nx (nx (teS fk fs n fn fi x k).2.2.1) / 65536 % (n + 1)) n (teS fk fs n fn fi x k).2.1) (n - 1) then (teS fk fs n fn fi x k).2.2.2.1 + 1 else (teS fk fs n fn fi x k).2.2.2.1,
     (teS fk fs n fn fi x k).2.2.2.2 + (htF fk fs (ilF (nx (nx (teS fk fs n fn fi x k).2.2.1) / 65536 % (n + 1)) n (teS fk fs n fn fi x k).2.1) (n - 1) (upd (teS fk fs n fn fi x k).1 0 (nI (nx (teS fk fs n fn fi x k).2.2.1 / 65536 % 12))) 0).2)
def teB (n : Nat) (fk fs fn fi : Nat → Int32) (x m : Nat) (w : Int32) : Int32 := if w = nI 0 then nI (teS fk fs n fn fi x m).2.2.2.1 else if w = nI 1 then (if (teS fk fs n fn fi x m).1 (n - 1) = -1 then nI 0 else (teS fk fs n fn fi x m).1 (n - 1) + nI 1) else nI (teS fk fs n fn fi x m).2.2.1
def teA (n : Nat) (fk fs fn fi : Nat → Int32) (a b w : Int32) : Int32 := if tmb a b w = true then (if n = 0 then -103 else teB n fk fs fn fi (ix b) (ix a) w) else -102
theorem teS_lt {fk fs fn fi : Nat → Int32} {n x k : Nat} (h : x < 2147483648) : (teS fk fs n fn fi x k).2.2.1 < 2147483648 := by
  cases k with
  | zero => exact h
  | succ k => exact nx_lt
theorem add0 {x : Int32} : x + nI 0 = x := Int32.add_zero x
theorem add2 {x : Int32} {a b : Nat} : x + nI a + nI b = x + nI (a + b) := by rw [Int32.add_assoc, nI_add]
theorem tmb_iff {a b w : Int32} : tmb a b w = true ↔ (1 ≤ a.toInt ∧ a.toInt ≤ 60) ∧ 0 ≤ b.toInt ∧ 0 ≤ w.toInt ∧ w.toInt ≤ 2 := by
  unfold tmb
  exact decide_eq_true_iff
theorem tm_ints {a b w : Int32} : (a < nI 1 ∨ nI 60 < a ∨ b < 0 ∨ w < 0 ∨ ¬ w ≤ nI 2) ↔ ¬ ((1 ≤ a.toInt ∧ a.toInt ≤ 60) ∧ 0 ≤ b.toInt ∧ 0 ≤ w.toInt ∧ w.toInt ≤ 2) := by
  simp only [Int32.lt_iff_toInt_lt, Int32.le_iff_toInt_le]
  rw [nI_toInt (show 1 < 2 ^ 31 by decide), nI_toInt (show 60 < 2 ^ 31 by decide), nI_toInt (show 2 < 2 ^ 31 by decide)]
  have h3 : (0 : Int32).toInt = 0 := rfl
  omega
theorem tm_bad {a b w : Int32} (h : tmb a b w = true) (q : a < nI 1 ∨ nI 60 < a ∨ b < 0 ∨ w < 0 ∨ ¬ w ≤ nI 2) : False := tm_ints.mp q (tmb_iff.mp h)
theorem tm_ok {a b w : Int32} (h1 : ¬ a < nI 1) (h2 : ¬ nI 60 < a) (h3 : ¬ b < 0) (h4 : ¬ w < 0) (h5 : w ≤ nI 2) : (∃ m, 1 ≤ m ∧ m ≤ 60 ∧ a = nI m) ∧ (∃ x, x < 2147483648 ∧ b = nI x) ∧ tmb a b w = true := by
  have hb : tmb a b w = true := by
    refine tmb_iff.mpr (Classical.byContradiction fun q => ?_)
    rcases tm_ints.mpr q with z | z | z | z | z
    · exact h1 z
    · exact h2 z
    · exact h3 z
    · exact h4 z
    · exact z h5
  have hi := tmb_iff.mp hb
  obtain ⟨m, hm, e⟩ := inR_of (n := 61) (x := a) (inR_def.mpr (by omega))
  have hbl := Int32.toInt_lt b
  refine ⟨⟨m, ?_, by omega, e⟩, ⟨b.toInt.toNat, by omega, ?_⟩, hb⟩
  · rw [e, nI_toInt (by omega)] at hi
    omega
  · apply Int32.toInt_inj.mp
    rw [nI_toInt (by omega)]
    omega
theorem teA_o {n : Nat} {fk fs fn fi : Nat → Int32} {a b w : Int32} (q : a < nI 1 ∨ nI 60 < a ∨ b < 0 ∨ w < 0 ∨ ¬ w ≤ nI 2) : -102 = teA n fk fs fn fi a b w := by
  unfold teA
  rw [if_neg (fun h => tm_bad h q)]
theorem teA_s {n : Nat} {fk fs fn fi : Nat → Int32} {a b w : Int32} (h : tmb a b w = true) (hn : n = 0) : -103 = teA n fk fs fn fi a b w := by
  unfold teA
  rw [if_pos h, if_pos hn]
theorem teA_y {n m x : Nat} {fk fs fn fi : Nat → Int32} {w : Int32} (h : tmP n (nI m) (nI x) w) (hm : m < 2147483648) (hx : x < 2147483648) : teA n fk fs fn fi (nI m) (nI x) w = teB n fk fs fn fi x m w := by
  unfold teA
  rw [if_pos h.1, if_neg h.2, ix_nI hm, ix_nI hx]
