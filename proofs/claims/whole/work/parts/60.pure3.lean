/-! bits and counts (the first rows are the given laws' rows, pasted) -/
theorem s_l : ∀ n, n < 32 → ((nI n &&& 31).toBitVec.smod 32).toNat = n := by decide +kernel
theorem fa_and (a b : Nat) : nI a &&& nI b = nI (a &&& b) := by
  apply Int32.toBitVec_inj.1
  show BitVec.ofNat 32 a &&& BitVec.ofNat 32 b = BitVec.ofNat 32 (a &&& b)
  apply BitVec.eq_of_getLsbD_eq
  intro i hi
  simp [hi]
theorem fa_or (a b : Nat) : nI a ||| nI b = nI (a ||| b) := by
  apply Int32.toBitVec_inj.1
  show BitVec.ofNat 32 a ||| BitVec.ofNat 32 b = BitVec.ofNat 32 (a ||| b)
  apply BitVec.eq_of_getLsbD_eq
  intro i hi
  simp [hi]
theorem wb_tb (n : Nat) : (lN n).toBitVec = BitVec.ofNat 64 n := rfl
theorem wb_inj {a b : Int64} (h : a.toBitVec = b.toBitVec) : a = b := Int64.toBitVec_inj.mp h
theorem wb_and {a b : Nat} (ha : a < 2 ^ 64) (hb : b < 2 ^ 64) : lN a &&& lN b = lN (a &&& b) := by
  apply wb_inj
  rw [Int64.toBitVec_and, wb_tb, wb_tb, wb_tb]
  apply BitVec.eq_of_toNat_eq
  rw [BitVec.toNat_and, BitVec.toNat_ofNat, BitVec.toNat_ofNat, BitVec.toNat_ofNat, Nat.mod_eq_of_lt ha, Nat.mod_eq_of_lt hb, Nat.mod_eq_of_lt (Nat.and_lt_two_pow _ hb)]
theorem nxM_eq {x : Nat} (h : x < 2147483648) : Int64.toInt32 (((((1103515245 : Int64)) * (lN x)) + ((12345 : Int64))) &&& ((2147483647 : Int64))) = nI (nx x) := by
  rw [show (1103515245 : Int64) = lN 1103515245 from rfl, show (12345 : Int64) = lN 12345 from rfl, show (2147483647 : Int64) = lN 2147483647 from rfl, lN_mul, lN_add, wb_and (by omega) (by decide), lN_i]
  rw [show 2147483647 = 2 ^ 31 - 1 from rfl, Nat.and_two_pow_sub_one_eq_mod]
  rfl
/-- how many of the bits below k are set -/
def popF (b : Nat) : Nat → Nat
  | 0 => 0
  | i + 1 => popF b i + (b.testBit i).toNat
theorem bcx_pop2 : ∀ h, h < 64 → ∀ l, l < 64 → bcx (nI (64 * h + l)) = nI (popF (64 * h + l) 12) := by decide +kernel
theorem bcx_pop : ∀ b, b < 4096 → bcx (nI b) = nI (popF b 12) := fun b hb => by
  have h := bcx_pop2 (b / 64) (by omega) (b % 64) (Nat.mod_lt _ (by decide))
  rwa [Nat.div_add_mod] at h
theorem popF_or (b r : Nat) : ∀ k, popF (b ||| 2 ^ r) k = popF b k + (if r < k then 1 - (b.testBit r).toNat else 0)
  | 0 => by rw [if_neg (by omega)]; rfl
  | k + 1 => by
    rw [popF, popF, popF_or b r k, Nat.testBit_or, Nat.testBit_two_pow]
    by_cases h : r = k
    · subst h
      rw [if_neg (by omega), if_pos (by omega)]
      cases b.testBit r <;> simp
    · by_cases h2 : r < k
      · rw [if_pos h2, if_pos (by omega)]
        simp [h]
        omega
      · rw [if_neg h2, if_neg (by omega)]
        simp [h]
theorem bit_N {b r : Nat} (hb : b < 2 ^ 31) (hr : r < 32) : ((nI b >>> (nI r &&& 31)) &&& nI 1) = nI (b.testBit r).toNat := by
  rw [pk_shrN hb _ r (s_l r hr), fa_and]
  congr 1
  rw [show (1 : Nat) = 2 ^ 1 - 1 from rfl, Nat.and_two_pow_sub_one_eq_mod, Nat.testBit_eq_decide_div_mod_eq]
  have := Nat.mod_lt (b / 2 ^ r) (show 0 < 2 by decide)
  by_cases h : b / 2 ^ r % 2 = 1
  · simp [h]
  · simp [h]; omega
theorem shl_N {r : Nat} (hr : r < 31) : nI 1 <<< (nI r &&& 31) = nI (2 ^ r) := by
  have h2 : 2 ^ r < 2 ^ 31 := Nat.pow_lt_pow_right (by decide) hr
  rw [pk_shlN _ r (s_l r (by omega)) (by omega), Nat.one_mul]
/-- the bits of what is known: below 2^12 -/
theorem ulF_N {fn : Nat → Int32} (h : GN fn) : ∀ k, ∃ b, b < 4096 ∧ ulF fn k = nI b
  | 0 => ⟨0, by decide, rfl⟩
  | k + 1 => by
    obtain ⟨b, hb, e⟩ := ulF_N h k
    rw [ulF]
    rcases h k with q | ⟨r, hr, q⟩
    · rw [if_pos q]; exact ⟨b, hb, e⟩
    · rw [if_neg (by rw [q]; exact nI_ne_m1 (by omega)), e, q, shl_N (by omega), fa_or]
      refine ⟨_, Nat.or_lt_two_pow (n := 12) hb ?_, rfl⟩
      exact Nat.pow_lt_pow_right (by decide) hr
theorem unlike_s {fn : Nat → Int32} {k : Nat} (h : GN fn) (hk : ¬ fn k = -1) : nI 0 + (bcx (ulF fn k)) + (nI 1 - ((ulF fn k >>> (fn k &&& 31)) &&& nI 1)) = bcx (ulF fn (k + 1)) := by
  obtain ⟨b, hb, e⟩ := ulF_N h k
  obtain ⟨r, hr, q⟩ := (h k).resolve_left hk
  have h2 : 2 ^ r < 4096 := Nat.pow_lt_pow_right (n := 12) (by decide) hr
  rw [ulF, if_neg hk, e, q, shl_N (by omega), fa_or, bcx_pop b hb, bcx_pop _ (Nat.or_lt_two_pow (n := 12) hb h2), bit_N (by omega) (by omega), popF_or, if_pos hr]
  have h3 : (b.testBit r).toNat ≤ 1 := by cases b.testBit r <;> decide
  rw [pk_sub h3, nI_add, nI_add, Nat.zero_add]
theorem unlike_t {fn : Nat → Int32} {k : Nat} (h : GN fn) (hk : ¬ fn k = -1) : (bcx (ulF fn k)) + (nI 1 - ((ulF fn k >>> (fn k &&& 31)) &&& nI 1)) = bcx (ulF fn (k + 1)) := by
  have h0 := unlike_s h hk
  rwa [show nI 0 + bcx (ulF fn k) = bcx (ulF fn k) from Int32.zero_add _] at h0
theorem unlike_n {fn : Nat → Int32} {k : Nat} (hk : fn k = -1) : bcx (ulF fn k) + nI 0 = bcx (ulF fn (k + 1)) := by
  rw [ulF, if_pos hk]
  exact Int32.add_zero _
/-! what is left at worst -/
def ptF (b k r : Int32) (m : Nat → Int32) (v : Nat) : Nat → Int32 := fun a => if a < 12 then nI (lbF b k r (nI a) v) else m a
def czF (m : Nat → Int32) (j : Nat) : Nat → Int32 := fun a => if a < j then nI 0 else m a
theorem czF_0 {m : Nat → Int32} : m = czF m 0 := by
  funext a
  simp [czF]
theorem czF_s {m : Nat → Int32} {k : Nat} : upd (czF m k) k (nI 0) = czF m (k + 1) := by
  funext a
  unfold upd czF
  by_cases h1 : a = k
  · subst h1; rw [if_pos rfl, if_pos (Nat.lt_succ_self _)]
  · rw [if_neg h1]
    by_cases h2 : a < k
    · rw [if_pos h2, if_pos (show a < k + 1 by omega)]
    · rw [if_neg h2, if_neg (show ¬ a < k + 1 by omega)]
theorem czF_e {b k r : Int32} {m : Nat → Int32} : czF m 12 = ptF b k r m 0 := rfl
theorem bit01 (x : Int32) : (x &&& nI 1 = nI 0) ∨ (x &&& nI 1 = nI 1) := by
  obtain ⟨j, hj, e⟩ := pk_andE x (m := nI 1) 1 rfl
  rcases (show j = 0 ∨ j = 1 by omega) with rfl | rfl
  · exact Or.inl e
  · exact Or.inr e
theorem lb_step {b k r : Int32} {v t : Nat} (ht : tb k (nI v) r = nI t) : nI (lbF b k r (nI t) v) + ((b >>> (nI v &&& 31)) &&& nI 1) = nI (lbF b k r (nI t) (v + 1)) := by
  rw [lbF]
  rcases bit01 (b >>> (nI v &&& 31)) with h | h
  · rw [h, if_neg (fun q => absurd q.1 (by decide))]
    exact Int32.add_zero _
  · rw [h, if_pos ⟨rfl, ht⟩, nI_add]
theorem lb_other {b k r : Int32} {v t a : Nat} (ht : tb k (nI v) r = nI t) (h1 : t < 12) (h2 : a < 12) (h : ¬ a = t) : lbF b k r (nI a) (v + 1) = lbF b k r (nI a) v := by
  rw [lbF, if_neg]
  intro q
  rw [ht] at q
  exact h ((nI_eq (by omega) (by omega)).mp q.2).symm
theorem pt_step {b k r : Int32} {m : Nat → Int32} {v t : Nat} (ht : tb k (nI v) r = nI t) (h1 : t < 12) : upd (ptF b k r m v) t (nI (lbF b k r (nI t) (v + 1))) = ptF b k r m (v + 1) := by
  funext a
  unfold upd ptF
  by_cases h : a = t
  · subst h; rw [if_pos rfl, if_pos h1]
  · rw [if_neg h]
    by_cases h2 : a < 12
    · rw [if_pos h2, if_pos h2, lb_other ht h1 h2 h]
    · rw [if_neg h2, if_neg h2]
theorem lb_mono {b k r x : Int32} {v : Nat} : lbF b k r x v ≤ lbF b k r x (v + 1) := by
  rw [lbF]
  split <;> omega
theorem wl_le {b k r : Int32} {v x : Nat} : ∀ N, wlF b k r v N ≤ x ↔ ∀ a, a < N → lbF b k r (nI a) v ≤ x
  | 0 => ⟨fun _ a h => absurd h (Nat.not_lt_zero _), fun _ => Nat.zero_le _⟩
  | N + 1 => by
    rw [wlF, show Nat.max (wlF b k r v N) (lbF b k r (nI N) v) = max (wlF b k r v N) (lbF b k r (nI N) v) from rfl, Nat.max_le, wl_le N]
    constructor
    · rintro ⟨h1, h2⟩ a ha
      rcases Nat.lt_succ_iff_lt_or_eq.mp ha with q | q
      · exact h1 a q
      · rw [q]; exact h2
    · intro h
      exact ⟨fun a ha => h a (by omega), h N (by omega)⟩
theorem wl_step {b k r : Int32} {v t : Nat} (ht : tb k (nI v) r = nI t) (h1 : t < 12) : wlF b k r (v + 1) 12 = max (wlF b k r v 12) (lbF b k r (nI t) (v + 1)) := by
  apply Nat.le_antisymm
  · rw [wl_le]
    intro a ha
    by_cases h : a = t
    · rw [h]; exact Nat.le_max_right _ _
    · rw [lb_other ht h1 ha h]
      exact Nat.le_trans ((wl_le 12).mp (Nat.le_refl _) a ha) (Nat.le_max_left _ _)
  · rw [Nat.max_le]
    refine ⟨?_, (wl_le 12).mp (Nat.le_refl _) t h1⟩
    rw [wl_le]
    intro a ha
    exact Nat.le_trans lb_mono ((wl_le 12).mp (Nat.le_refl _) a ha)
theorem wl_a {b k r : Int32} {v t : Nat} (ht : tb k (nI v) r = nI t) (h1 : t < 12) (h : wlF b k r v 12 < lbF b k r (nI t) (v + 1)) : lbF b k r (nI t) (v + 1) = wlF b k r (v + 1) 12 := by
  rw [wl_step ht h1]
  exact (Nat.max_eq_right (Nat.le_of_lt h)).symm
theorem wl_b {b k r : Int32} {v t : Nat} (ht : tb k (nI v) r = nI t) (h1 : t < 12) (h : lbF b k r (nI t) (v + 1) ≤ wlF b k r v 12) : wlF b k r v 12 = wlF b k r (v + 1) 12 := by
  rw [wl_step ht h1]
  exact (Nat.max_eq_left h).symm
theorem wl_0 {b k r : Int32} : ∀ N, wlF b k r 0 N = 0
  | 0 => rfl
  | N + 1 => by
    rw [wlF, wl_0 N]
    rfl
theorem ptF_at {b k r : Int32} {m : Nat → Int32} {v t : Nat} (h : t < 12) : ptF b k r m v t = nI (lbF b k r (nI t) v) := if_pos h
theorem upd_at {f : Nat → Int32} {t : Nat} {x : Int32} : upd f t x t = x := if_pos rfl
theorem sl_b {fc fw ft : Nat → Int32} {k c : Int32} {h i v : Nat} (q : exP fc fw ft k c (nI v) i) (e : i = h) : slF fc fw ft k c h v ||| (nI 1 <<< (nI v &&& 31)) = slF fc fw ft k c h (v + 1) := by
  subst e
  exact (if_pos q).symm
theorem sl_c {fc fw ft : Nat → Int32} {k c : Int32} {h i v : Nat} (q : ¬ exP fc fw ft k c (nI v) i) (e : i = h) : slF fc fw ft k c h v ||| nI 0 = slF fc fw ft k c h (v + 1) := by
  subst e
  exact Int32.or_zero.trans (if_neg q).symm
theorem ex_iff {fc fw ft : Nat → Int32} {k c sl : Int32} {i : Nat} : exP fc fw ft k c sl (i + 1) ↔ exP fc fw ft k c sl i ∧ (fc i = c → tb k sl (fw i) = ft i) := by
  constructor
  · intro h
    exact ⟨fun j hj => h j (by omega), h i (by omega)⟩
  · rintro ⟨h1, h2⟩
    exact lt_s h1 h2
theorem uc0_if {fk fs : Nat → Int32} {n : Nat} : nI (uc0 fk fs n) = if n = 0 then nI 0 else nI (ucF fk fs n) := by
  unfold uc0
  by_cases h : n = 0
  · rw [if_pos h, if_pos h]
  · rw [if_neg h, if_neg h]
theorem dn_2 {n : Nat} (h : 1 ≤ n) : nI n - nI 2 = dn (n - 1) := by
  obtain ⟨i, rfl⟩ : ∃ i, n = i + 1 := ⟨n - 1, by omega⟩
  unfold dn
  rw [← nI_add i 1, Int32.sub_eq_add_neg, Int32.sub_eq_add_neg, Int32.add_assoc]
  rfl
theorem GN_upd {f : Nat → Int32} {k : Nat} {x : Int32} (h : GN f) (hx : x = -1 ∨ ∃ q, q < 12 ∧ x = nI q) : GN (upd f k x) := by
  intro i
  unfold upd
  by_cases q : i = k
  · rw [if_pos q]; exact hx
  · rw [if_neg q]; exact h i
section TP
variable {fk fs fn fi g : Nat → Int32} {n i : Nat}
theorem tp_n (hj : i + 1 ≤ n - 1) (h : ¬ ttP fk fs g fi (i + 1)) (hg : i + 1 = n - 1 → g = fn) : (if i + 1 < n - 1 ∧ ttP fk fs fn fi (n - 1) then nI 1 else nI 0) = if i < n - 1 ∧ ttP fk fs fn fi (n - 1) then nI 1 else nI 0 := by
  refine ite_c ⟨fun q => ⟨by omega, q.2⟩, fun q => ⟨?_, q.2⟩⟩
  rcases Nat.lt_or_ge (i + 1) (n - 1) with z | z
  · exact z
  · exfalso
    have e : i + 1 = n - 1 := by omega
    rw [hg e, e] at h
    exact h q.2
theorem tp_a (h : i + 1 < n - 1 ∧ ttP fk fs fn fi (n - 1)) : nI 1 = if i < n - 1 ∧ ttP fk fs fn fi (n - 1) then nI 1 else nI 0 := (if_pos ⟨by omega, h.2⟩).symm
theorem tp_b (hT : ttP fk fs g fi (i + 1)) (hj : i + 1 ≤ n - 1) (hg : i + 1 = n - 1 → g = fn) (e : i = n - 2) : nI 1 = if i < n - 1 ∧ ttP fk fs fn fi (n - 1) then nI 1 else nI 0 := by
  have e2 : i + 1 = n - 1 := by omega
  rw [hg e2, e2] at hT
  exact (if_pos ⟨by omega, hT⟩).symm
theorem tp_c (hj : i + 1 ≤ n - 1) (h : ¬ (i + 1 < n - 1 ∧ ttP fk fs fn fi (n - 1))) (e : ¬ i = n - 2) : nI 0 = if i < n - 1 ∧ ttP fk fs fn fi (n - 1) then nI 1 else nI 0 := (if_neg (fun q => h ⟨by omega, q.2⟩)).symm
theorem tp_e : (if 0 < n - 1 ∧ ttP fk fs fn fi (n - 1) then nI 1 else nI 0) = if ttP fk fs fn fi (n - 1) then nI 1 else nI 0 := ite_c ⟨fun q => q.2, fun q => ⟨q.1, q⟩⟩
end TP
