/-! schools as texts -/
def kb (cd : Int32) : Int32 := if cd = nI 99 then nI 0 else if cd = nI 112 then nI 1 else if cd = nI 116 then nI 2 else if cd = nI 109 then nI 3 else if cd = nI 101 then nI 4 else -1
abbrev dgP (cd : Int32) : Prop := ¬ cd < nI 48 ∧ cd ≤ nI 57
/-- what a school may have at a place -/
def gdb (p : Nat) (cd : Int32) : Bool := if p % 3 = 0 then decide (p < 18 ∧ ¬ kb cd = -1) else if p % 3 = 1 then decide (dgP cd) else decide (cd = nI 44 ∧ p < 17)
abbrev gdP (p : Nat) (cd : Int32) : Prop := gdb p cd = true
theorem gd_0 {p : Nat} {cd : Int32} (h : p % 3 = 0) : gdP p cd ↔ p < 18 ∧ ¬ kb cd = -1 := by
  unfold gdP gdb
  rw [if_pos h]
  exact decide_eq_true_iff
theorem gd_1 {p : Nat} {cd : Int32} (h : p % 3 = 1) : gdP p cd ↔ dgP cd := by
  unfold gdP gdb
  rw [if_neg (by omega), if_pos h]
  exact decide_eq_true_iff
theorem gd_2 {p : Nat} {cd : Int32} (h0 : ¬ p % 3 = 0) (h1 : ¬ p % 3 = 1) : gdP p cd ↔ cd = nI 44 ∧ p < 17 := by
  unfold gdP gdb
  rw [if_neg h0, if_neg h1]
  exact decide_eq_true_iff
def mf (pg : Nat → Int32) : Nat → Nat → Nat
  | 0, k => k
  | d + 1, k => if gdP k (pg k) then mf pg d (k + 1) else k
theorem mf_le {pg : Nat → Int32} : ∀ d k, mf pg d k ≤ k + d
  | 0, k => Nat.le_refl _
  | d + 1, k => by
    rw [mf]
    split
    · exact Nat.le_trans (mf_le d (k + 1)) (by omega)
    · omega
theorem mf_18 {pg : Nat → Int32} : ∀ d k, k ≤ 18 → mf pg d k ≤ 18
  | 0, k, h => h
  | d + 1, k, h => by
    rw [mf]
    split
    · rename_i hg
      refine mf_18 d (k + 1) ?_
      rcases Nat.lt_or_ge k 18 with q | q
      · omega
      · have e : k = 18 := by omega
        subst e
        have := ((gd_0 (by decide)).mp hg).1
        omega
    · exact h
def scb (pg : Nat → Int32) (pn : Nat) : Bool := decide (5 ≤ pn ∧ pn % 3 = 2 ∧ pn ≤ mf pg pn 0)
abbrev scP (pg : Nat → Int32) (pn : Nat) : Prop := scb pg pn = true
theorem scP_iff {pg : Nat → Int32} {pn : Nat} : scP pg pn ↔ 5 ≤ pn ∧ pn % 3 = 2 ∧ pn ≤ mf pg pn 0 := by
  unfold scP scb
  exact decide_eq_true_iff
theorem scP_6 {pg : Nat → Int32} {pn : Nat} (h : scP pg pn) : 2 ≤ (pn + 1) / 3 ∧ (pn + 1) / 3 ≤ 6 := by
  have h1 := scP_iff.mp h
  have h2 := mf_18 (pg := pg) pn 0 (by decide)
  omega
def rdR (pg m : Nat → Int32) (n : Nat) : Nat → Int32 := fun j => if j < 4 * n then (if j % 4 = 0 then kb (pg (3 * (j / 4))) else if j % 4 = 1 then pg (3 * (j / 4) + 1) - nI 48 else if j % 4 = 2 then -1 else nI 0) else m j
theorem rdR_0 {pg m : Nat → Int32} : m = rdR pg m 0 := by
  funext j
  unfold rdR
  rw [if_neg (by omega)]
theorem rdR_s {pg m : Nat → Int32} {c : Nat} : upd (upd (upd (upd (rdR pg m c) (4 * c) (kb (pg (3 * c)))) (4 * c + 1) (pg (3 * c + 1) - nI 48)) (4 * c + 2) (-1)) (4 * c + 3) (nI 0) = rdR pg m (c + 1) := by
  funext j
  unfold upd rdR
  by_cases h3 : j = 4 * c + 3
  · rw [if_pos h3, if_pos (by omega), if_neg (by omega), if_neg (by omega), if_neg (by omega)]
  · rw [if_neg h3]
    by_cases h2 : j = 4 * c + 2
    · rw [if_pos h2, if_pos (by omega), if_neg (by omega), if_neg (by omega), if_pos (by omega)]
    · rw [if_neg h2]
      by_cases h1 : j = 4 * c + 1
      · rw [if_pos h1, if_pos (by omega), if_neg (by omega), if_pos (by omega), show j / 4 = c by omega]
      · rw [if_neg h1]
        by_cases h0 : j = 4 * c
        · rw [if_pos h0, if_pos (by omega), if_pos (by omega), show j / 4 = c by omega]
        · rw [if_neg h0]
          by_cases h : j < 4 * c
          · rw [if_pos h, if_pos (show j < 4 * (c + 1) by omega)]
          · rw [if_neg h, if_neg (show ¬ j < 4 * (c + 1) by omega)]
/-- the class's columns as they are read -/
def rdK (pg f : Nat → Int32) (n : Nat) : Nat → Int32 := fun c => if c < n then kb (pg (3 * c)) else f c
def rdS (pg f : Nat → Int32) (n : Nat) : Nat → Int32 := fun c => if c < n then pg (3 * c + 1) - nI 48 else f c
def rdC (x : Int32) (f : Nat → Int32) (n : Nat) : Nat → Int32 := fun c => if c < n then x else f c
theorem rK_rdR {pg m : Nat → Int32} {n : Nat} : rK (rdR pg m n) = rdK pg (rK m) n := by
  funext c
  unfold rK rdR rdK
  by_cases h : c < n
  · rw [if_pos (by omega), if_pos (by omega), if_pos h, show 4 * c / 4 = c by omega]
  · rw [if_neg (by omega), if_neg h]
theorem rS_rdR {pg m : Nat → Int32} {n : Nat} : rS (rdR pg m n) = rdS pg (rS m) n := by
  funext c
  unfold rS rdR rdS
  by_cases h : c < n
  · rw [if_pos (by omega), if_neg (by omega), if_pos (by omega), if_pos h, show (4 * c + 1) / 4 = c by omega]
  · rw [if_neg (by omega), if_neg h]
theorem rN_rdR {pg m : Nat → Int32} {n : Nat} : rN (rdR pg m n) = rdC (-1) (rN m) n := by
  funext c
  unfold rN rdR rdC
  by_cases h : c < n
  · rw [if_pos (by omega), if_neg (by omega), if_neg (by omega), if_pos (by omega), if_pos h]
  · rw [if_neg (by omega), if_neg h]
theorem rI_rdR {pg m : Nat → Int32} {n : Nat} : rI (rdR pg m n) = rdC (nI 0) (rI m) n := by
  funext c
  unfold rI rdR rdC
  by_cases h : c < n
  · rw [if_pos (by omega), if_neg (by omega), if_neg (by omega), if_neg (by omega), if_pos h]
  · rw [if_neg (by omega), if_neg h]
theorem rdK_0 {pg f : Nat → Int32} : f = rdK pg f 0 := by funext c; simp [rdK]
theorem rdS_0 {pg f : Nat → Int32} : f = rdS pg f 0 := by funext c; simp [rdS]
theorem rdC_0 {x : Int32} {f : Nat → Int32} : f = rdC x f 0 := by funext c; simp [rdC]
theorem updIf {g f : Nat → Int32} {k : Nat} : upd (fun c => if c < k then g c else f c) k (g k) = fun c => if c < k + 1 then g c else f c := by
  funext c
  unfold upd
  by_cases h1 : c = k
  · subst h1; rw [if_pos rfl, if_pos (Nat.lt_succ_self _)]
  · rw [if_neg h1]
    by_cases h2 : c < k
    · exact (if_pos h2).trans (if_pos (show c < k + 1 by omega)).symm
    · exact (if_neg h2).trans (if_neg (show ¬ c < k + 1 by omega)).symm
theorem rdK_s {pg f : Nat → Int32} {k : Nat} : upd (rdK pg f k) k (kb (pg (3 * k))) = rdK pg f (k + 1) := updIf (g := fun c => kb (pg (3 * c)))
theorem rdS_s {pg f : Nat → Int32} {k : Nat} : upd (rdS pg f k) k (pg (3 * k + 1) - nI 48) = rdS pg f (k + 1) := updIf (g := fun c => pg (3 * c + 1) - nI 48)
theorem rdC_s {x : Int32} {f : Nat → Int32} {k : Nat} : upd (rdC x f k) k x = rdC x f (k + 1) := updIf (g := fun _ => x)
theorem in64_dg {x : Int32} {L U : Int64} (hL : L.toInt = 48) (hU : U.toInt = 57) : (L ≤ x.toInt64 ∧ x.toInt64 ≤ U) ↔ dgP x := by
  unfold dgP
  rw [Int64.le_iff_toInt_le, Int64.le_iff_toInt_le, Int32.toInt_toInt64, hL, hU, Int32.lt_iff_toInt_lt, Int32.le_iff_toInt_le, nI_toInt (show 48 < 2 ^ 31 by decide), nI_toInt (show 57 < 2 ^ 31 by decide)]
  omega
theorem kb_1 {x : Int32} (h : x = nI 99) : nI 0 = kb x := (if_pos h).symm
theorem kb_2 {x : Int32} (h1 : ¬ x = nI 99) (h : x = nI 112) : nI 1 = kb x := by unfold kb; rw [if_neg h1, if_pos h]
theorem kb_3 {x : Int32} (h1 : ¬ x = nI 99) (h2 : ¬ x = nI 112) (h : x = nI 116) : nI 2 = kb x := by unfold kb; rw [if_neg h1, if_neg h2, if_pos h]
theorem kb_4 {x : Int32} (h1 : ¬ x = nI 99) (h2 : ¬ x = nI 112) (h3 : ¬ x = nI 116) (h : x = nI 109) : nI 3 = kb x := by unfold kb; rw [if_neg h1, if_neg h2, if_neg h3, if_pos h]
theorem kb_5 {x : Int32} (h1 : ¬ x = nI 99) (h2 : ¬ x = nI 112) (h3 : ¬ x = nI 116) (h4 : ¬ x = nI 109) (h : x = nI 101) : nI 4 = kb x := by unfold kb; rw [if_neg h1, if_neg h2, if_neg h3, if_neg h4, if_pos h]
theorem kb_6 {x : Int32} (h1 : ¬ x = nI 99) (h2 : ¬ x = nI 112) (h3 : ¬ x = nI 116) (h4 : ¬ x = nI 109) (h : ¬ x = nI 101) : -1 = kb x := by unfold kb; rw [if_neg h1, if_neg h2, if_neg h3, if_neg h4, if_neg h]
