def uc0 (fk fs : Nat → Int32) (n : Nat) : Nat := if n = 0 then 0 else ucF fk fs n
theorem uc0_n {fk fs : Nat → Int32} {n : Nat} (h : 1 ≤ n) : uc0 fk fs n = ucF fk fs n := if_neg (by omega)
theorem uc0_a {fk fs : Nat → Int32} {n k : Nat} (h : n = 0) (hz : k = 0 ∨ ¬ n = 0) : unF (fun r9 => atF fk fs 0 (n - 1) (nI r9)) k = uc0 fk fs n := by
  rcases hz with rfl | q
  · unfold uc0; rw [if_pos h]; rfl
  · exact absurd h q
theorem uc0_b {fk fs : Nat → Int32} {n k : Nat} (h : k = 12) (hz : k = 0 ∨ ¬ n = 0) : unF (fun r9 => atF fk fs 0 (n - 1) (nI r9)) k = uc0 fk fs n := by
  subst h
  rcases hz with q | q
  · exact absurd q (by decide)
  · unfold uc0; rw [if_neg q]; rfl
theorem illN_y {n k : Nat} {fi : Nat → Int32} {z : Int32} (hk : k < n) (h : n < 2 ^ 31) : illN n fi (nI k) z = upd fi k z := by
  unfold illN
  rw [if_pos (inR_nI hk (by omega)), ix_nI (by omega)]
theorem as_no {a k x : Int32} (h1 : ¬ k = 0) (h2 : ¬ k = a) (h3 : ¬ k = nI 1) : ¬ (k = nI 0 ∨ a = k ∨ (a = nI 4 ∧ k = nI 1)) := by
  rintro (q | q | q)
  · exact h1 q
  · exact h2 q.symm
  · exact h3 q.2
theorem as_no2 {a k x : Int32} (h1 : ¬ k = 0) (h2 : ¬ k = a) (h3 : ¬ a = nI 4) : ¬ (k = nI 0 ∨ a = k ∨ (a = nI 4 ∧ k = nI 1)) := by
  rintro (q | q | q)
  · exact h1 q
  · exact h2 q.symm
  · exact h3 q.1
theorem io_step {fi : Nat → Int32} {k : Nat} (h : fi k = nI 0 ∨ fi k = nI 1) : nI (ioF fi k) + fi k = nI (ioF fi (k + 1)) := by
  rw [ioF]
  rcases h with h | h
  · rw [h, if_pos nI_0]; exact Int32.add_zero _
  · rw [h, if_neg (by decide), nI_add]
theorem ttF_a {fn fi : Nat → Int32} {n : Nat} (hn : 1 ≤ n) (h : ¬ fn (n - 1) = -1) : nI 0 = ttF fn fi n := by
  unfold ttF
  rw [if_neg (by omega), if_pos h]
theorem ttF_b {fn fi : Nat → Int32} {n : Nat} (hn : 1 ≤ n) (h : fn (n - 1) = -1) : ttF fn fi n = soF fn fi n n := by
  unfold ttF
  rw [if_neg (by omega), if_neg (not_not_intro h)]
theorem cur_eq {m : Nat → Int32} {n k : Nat} (hn : n ≤ 6) (hk : k < n) : ucF (rK (upd m (4 * k + 1) (nI 0))) (rS (upd m (4 * k + 1) (nI 0))) n = ucF (rK m) (cuF (rS m) (nI k)) n := by
  refine ucF_cong (fun j hj => ⟨?_, ?_⟩)
  · unfold rK upd
    rw [if_neg (by omega)]
  · unfold rS upd cuF
    by_cases h : j = k
    · subst h
      rw [if_pos rfl, if_pos rfl]
    · rw [if_neg (by omega), if_neg (fun q => h ((nI_eq (by omega) (by omega)).mp q))]
theorem cur_S {m : Nat → Int32} {k : Nat} (h : GS (rS m)) : GS (rS (upd m (4 * k + 1) (nI 0))) := by
  intro i
  unfold rS upd
  by_cases q : 4 * i + 1 = 4 * k + 1
  · rw [if_pos q]; exact ⟨0, by decide, rfl⟩
  · rw [if_neg q]; exact h i
theorem bcF_snd {fk fs : Nat → Int32} {n : Nat} (hn : n ≤ 6) : ∀ k, k ≤ 6 → (bcF (fun i9 => ucF fk (cuF fs (nI i9)) n) (ucF fk fs n) k).2 = ucF fk (cuF fs (bcF (fun i9 => ucF fk (cuF fs (nI i9)) n) (ucF fk fs n) k).1) n
  | 0, _ => (ucF_no hn).symm
  | k + 1, h => by
    rw [bcF]
    split
    · rfl
    · exact bcF_snd hn k (by omega)
def hearM (n h : Nat) (c kw tg : Int32) (m : Nat → Int32) : Nat → Int32 := if inR n c ∧ inR 12 kw ∧ inR 12 tg ∧ ¬ 8 ≤ h then upd (upd (upd m (3 * h) c) (3 * h + 1) kw) (3 * h + 2) tg else m
theorem hearA_f {n h : Nat} {c kw tg : Int32} (h1 : inR n c) (h2 : inR 12 kw) (h3 : inR 12 tg) (h4 : h = 8) : -104 = hearA n h c kw tg := by
  unfold hearA
  rw [if_pos h1, if_pos h2, if_pos h3, if_pos (by omega)]
theorem hearA_y {n h : Nat} {c kw tg : Int32} (h1 : inR n c) (h2 : inR 12 kw) (h3 : inR 12 tg) (h4 : ¬ 8 ≤ h) : nI (h + 1) = hearA n h c kw tg := by
  unfold hearA
  rw [if_pos h1, if_pos h2, if_pos h3, if_neg h4]
theorem cure_e {fk fs : Nat → Int32} {n : Nat} {w : Int32} (hn : n ≤ 6) : (if w = 0 then (bcF (fun i9 => ucF fk (cuF fs (nI i9)) n) (ucF fk fs n) n).1 else nI (bcF (fun i9 => ucF fk (cuF fs (nI i9)) n) (ucF fk fs n) n).2) = if w = nI 0 then (bcF (fun i => ucF fk (cuF fs (nI i)) n) (ucF fk fs n) n).1 else nI (ucF fk (cuF fs (bcF (fun i => ucF fk (cuF fs (nI i)) n) (ucF fk fs n) n).1) n) := by
  rw [bcF_snd hn n hn]
  rfl
theorem ite_c {a b : Prop} [Decidable a] [Decidable b] (h : a ↔ b) : (if a then nI 1 else nI 0) = if b then nI 1 else nI 0 := by
  by_cases q : a
  · rw [if_pos q, if_pos (h.mp q)]
  · rw [if_neg q, if_neg (fun z => q (h.mpr z))]
theorem in_a {a lo hi : Int64} (h : lg_cmp a lo < 0) : nI 0 = if lo ≤ a ∧ a ≤ hi then nI 1 else nI 0 := w_ite0 (fun q => Int64.not_le.mpr (lgc_lt.mp h) q.1)
theorem in_b {a lo hi : Int64} (h : 0 < lg_cmp a hi) : nI 0 = if lo ≤ a ∧ a ≤ hi then nI 1 else nI 0 := w_ite0 (fun q => Int64.not_le.mpr (lgc_gt.mp h) q.2)
theorem in_c {a lo hi : Int64} (h1 : ¬ lg_cmp a lo < 0) (h2 : ¬ 0 < lg_cmp a hi) : nI 1 = if lo ≤ a ∧ a ≤ hi then nI 1 else nI 0 := w_ite1 ⟨Int64.not_lt.mp (fun q => h1 (lgc_lt.mpr q)), Int64.not_lt.mp (fun q => h2 (lgc_gt.mpr q))⟩
