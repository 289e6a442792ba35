/-! Rows of my own, second part: writing contracts that leave one array's contents open; what the reference's arithmetic says. -/
section WE
variable {p : Program} {l : Launch} {e : Env} {R : Room} {s : State} {m : MethodId} {args : Array Value} {below : List Frame} {meth : Method} {c : Code} {H : Heap} {locs : List Loc} {cells slots : Nat} {Q : State → Prop}
variable {cc : ByteArray} {pc : Nat} {ls : Array Slot} {rest : List Value} {A : Nat → Prop}
abbrev QEi (D : va_G) (v : Int32) (ws : va_W) (ws' : (Nat → Int32) → va_W) (sz : Nat) : Array Value → State → Outcome → State → Prop := va_Qi (S := Nat → Int32) (fun r _ => r = v) (fun u t => va_P D vwCl (ws' u) t.heap ∧ va_D (va_A ws sz) (ws' u)) (va_A ws sz)
abbrev QEl (D : va_G) (v : Int64) (ws : va_W) (ws' : (Nat → Int32) → va_W) (sz : Nat) : Array Value → State → Outcome → State → Prop := va_Ql (S := Nat → Int32) (fun r _ => r = v) (fun u t => va_P D vwCl (ws' u) t.heap ∧ va_D (va_A ws sz) (ws' u)) (va_A ws sz)
abbrev QEv (D : va_G) (ws : va_W) (ws' : (Nat → Int32) → va_W) (sz : Nat) : Array Value → State → Outcome → State → Prop := va_Qv (S := Nat → Int32) (fun _ => True) (fun u t => va_P D vwCl (ws' u) t.heap ∧ va_D (va_A ws sz) (ws' u)) (va_A ws sz)
theorem callEi {D : va_G} {v : Int32} {av : Array Value} {st0 : List Value} {ws wc wr : va_W} {w1 : (Nat → Int32) → va_W} (hr : va_Run p l e R s m args below meth c H locs cells slots 0 0 (F0 m pc ls st0) rest (QEi D v wc w1 H.size av) (va_A wc H.size)) (hP : va_P D vwCl ws H) (hD : va_D A ws) (hS : va_S A s.heap H locs) (hA : ∀ q, s.heap.size ≤ q → A q) (isC isR : List Nat) (hC : isC.map (fun i => ws[i]?) = wc.map some) (hR : isR.map (fun i => ws[i]?) = wr.map some) (hn : va_nd isR = true) (hdis : ∀ i ∈ isR, i ∉ isC)
    (kk : ∀ (u : Nat → Int32) (H1 : Heap) (locs1 : List Loc), va_P D vwCl (wr ++ w1 u) H1 → va_D A (wr ++ w1 u) → va_S A s.heap H1 locs1 → W p l e R s m args below meth c H1 locs1 cells slots Q (F0 m (pc + 3) ls (.int v :: rest))) : W p l e R s m args below meth c H locs cells slots Q (F0 m pc ls st0) := by
  have hF := va_free (wc := wc) hD hS hA isC hC
  refine va_calli hr hS (fun q _ h => hF q h) hF (fun r u t H1 locs1 ht hvm hw hB hz hk hS1 => ?_)
  subst hw
  obtain ⟨hP1, hD1⟩ := hB
  rw [ht] at hP1
  obtain ⟨hP2, hD2⟩ := va_join (wr := wr) (w1 := w1 u) hP hD isC isR hC hR hn hdis hk hF hP1 hD1
  exact kk u H1 locs1 hP2 hD2 hS1
theorem callEl {D : va_G} {v : Int64} {av : Array Value} {st0 : List Value} {ws wc wr : va_W} {w1 : (Nat → Int32) → va_W} (hr : va_Run p l e R s m args below meth c H locs cells slots 0 0 (F0 m pc ls st0) rest (QEl D v wc w1 H.size av) (va_A wc H.size)) (hP : va_P D vwCl ws H) (hD : va_D A ws) (hS : va_S A s.heap H locs) (hA : ∀ q, s.heap.size ≤ q → A q) (isC isR : List Nat) (hC : isC.map (fun i => ws[i]?) = wc.map some) (hR : isR.map (fun i => ws[i]?) = wr.map some) (hn : va_nd isR = true) (hdis : ∀ i ∈ isR, i ∉ isC)
    (kk : ∀ (u : Nat → Int32) (H1 : Heap) (locs1 : List Loc), va_P D vwCl (wr ++ w1 u) H1 → va_D A (wr ++ w1 u) → va_S A s.heap H1 locs1 → W p l e R s m args below meth c H1 locs1 cells slots Q (F0 m (pc + 3) ls (.long v :: rest))) : W p l e R s m args below meth c H locs cells slots Q (F0 m pc ls st0) := by
  have hF := va_free (wc := wc) hD hS hA isC hC
  refine va_calll hr hS (fun q _ h => hF q h) hF (fun r u t H1 locs1 ht hvm hw hB hz hk hS1 => ?_)
  subst hw
  obtain ⟨hP1, hD1⟩ := hB
  rw [ht] at hP1
  obtain ⟨hP2, hD2⟩ := va_join (wr := wr) (w1 := w1 u) hP hD isC isR hC hR hn hdis hk hF hP1 hD1
  exact kk u H1 locs1 hP2 hD2 hS1
theorem callEv {D : va_G} {av : Array Value} {st0 : List Value} {ws wc wr : va_W} {w1 : (Nat → Int32) → va_W} (hr : va_Run p l e R s m args below meth c H locs cells slots 0 0 (F0 m pc ls st0) rest (QEv D wc w1 H.size av) (va_A wc H.size)) (hP : va_P D vwCl ws H) (hD : va_D A ws) (hS : va_S A s.heap H locs) (hA : ∀ q, s.heap.size ≤ q → A q) (isC isR : List Nat) (hC : isC.map (fun i => ws[i]?) = wc.map some) (hR : isR.map (fun i => ws[i]?) = wr.map some) (hn : va_nd isR = true) (hdis : ∀ i ∈ isR, i ∉ isC)
    (kk : ∀ (u : Nat → Int32) (H1 : Heap) (locs1 : List Loc), va_P D vwCl (wr ++ w1 u) H1 → va_D A (wr ++ w1 u) → va_S A s.heap H1 locs1 → W p l e R s m args below meth c H1 locs1 cells slots Q (F0 m (pc + 3) ls rest)) : W p l e R s m args below meth c H locs cells slots Q (F0 m pc ls st0) := by
  have hF := va_free (wc := wc) hD hS hA isC hC
  refine va_callv hr hS (fun q _ h => hF q h) hF (fun  u t H1 locs1 ht hvm hw hB hz hk hS1 => ?_)
  obtain ⟨hP1, hD1⟩ := hB
  rw [ht] at hP1
  obtain ⟨hP2, hD2⟩ := va_join (wr := wr) (w1 := w1 u) hP hD isC isR hC hR hn hdis hk hF hP1 hD1
  exact kk u H1 locs1 hP2 hD2 hS1
theorem retEi {D : va_G} {v w : Int32} {ws : va_W} {ws' : (Nat → Int32) → va_W} {u : Nat → Int32} (hx : p.tables.exec = Jvm.exec) (hb : c.code = cc) (hr : meth.sig.returnType = some .int) (hlocks : meth.locks = false) (hv : v = w) (hP : va_P D vwCl (ws' u) H) (hD : va_D A (ws' u)) (hS : va_S A s.heap H locs) (hAe : va_A ws s.heap.size = A) {pc : Nat} {ls : Array Slot} (hdg : decode cc pc = .ok (.ireturn, 1)) :
    W p l e R s m args below meth c H locs 0 0 (MQ below (QEi D w ws ws' s.heap.size) args s 0 0 A) (F0 m pc ls [.int v]) := by
  subst hAe
  exact W.iret (v := v) hx hb hr (fun t ht hW => ⟨⟨v, u, rfl, hv, by rw [ht]; exact hP, hD⟩, hS.F ht⟩) hS.2.2 hdg hlocks
theorem retEl {D : va_G} {v w : Int64} {ws : va_W} {ws' : (Nat → Int32) → va_W} {u : Nat → Int32} (hx : p.tables.exec = Jvm.exec) (hb : c.code = cc) (hr : meth.sig.returnType = some .long) (hlocks : meth.locks = false) (hv : v = w) (hP : va_P D vwCl (ws' u) H) (hD : va_D A (ws' u)) (hS : va_S A s.heap H locs) (hAe : va_A ws s.heap.size = A) {pc : Nat} {ls : Array Slot} (hdg : decode cc pc = .ok (.lreturn, 1)) :
    W p l e R s m args below meth c H locs 0 0 (MQ below (QEl D w ws ws' s.heap.size) args s 0 0 A) (F0 m pc ls [.long v]) := by
  subst hAe
  exact W.lret (v := v) hx hb hr (fun t ht hW => ⟨⟨v, u, rfl, hv, by rw [ht]; exact hP, hD⟩, hS.F ht⟩) hS.2.2 hdg hlocks
theorem retEv {D : va_G} {ws : va_W} {ws' : (Nat → Int32) → va_W} {u : Nat → Int32} (hx : p.tables.exec = Jvm.exec) (hb : c.code = cc) (hr : meth.sig.returnType = none) (hlocks : meth.locks = false) (hP : va_P D vwCl (ws' u) H) (hD : va_D A (ws' u)) (hS : va_S A s.heap H locs) (hAe : va_A ws s.heap.size = A) {pc : Nat} {ls : Array Slot} (hdg : decode cc pc = .ok (.return_, 1)) :
    W p l e R s m args below meth c H locs 0 0 (MQ below (QEv D ws ws' s.heap.size) args s 0 0 A) (F0 m pc ls []) := by
  subst hAe
  exact W.vret hx hb hr (fun t ht hW => ⟨⟨u, rfl, trivial, by rw [ht]; exact hP, hD⟩, hS.F ht⟩) hS.2.2 hdg hlocks
end WE
theorem lgc_lt {x y : Int64} : lg_cmp x y < 0 ↔ x < y := by
  unfold lg_cmp
  by_cases h1 : x > y
  · rw [if_pos h1]
    exact ⟨fun h => absurd h (by decide), fun h => by rw [gt_iff_lt, Int64.lt_iff_toInt_lt] at h1; rw [Int64.lt_iff_toInt_lt] at h; omega⟩
  · rw [if_neg h1]
    by_cases h2 : x = y
    · rw [if_pos h2]
      subst h2
      exact ⟨fun h => absurd h (by decide), fun h => absurd h (by rw [Int64.lt_iff_toInt_lt]; omega)⟩
    · rw [if_neg h2]
      refine ⟨fun _ => ?_, fun _ => by decide⟩
      rw [gt_iff_lt, Int64.lt_iff_toInt_lt] at h1
      rw [Int64.lt_iff_toInt_lt]
      have : x.toInt ≠ y.toInt := fun q => h2 (Int64.toInt_inj.mp q)
      omega
theorem lgc_gt {x y : Int64} : 0 < lg_cmp x y ↔ y < x := by
  unfold lg_cmp
  by_cases h1 : x > y
  · rw [if_pos h1]
    exact ⟨fun _ => h1, fun _ => by decide⟩
  · rw [if_neg h1]
    by_cases h2 : x = y
    · rw [if_pos h2]
      exact ⟨fun h => absurd h (by decide), fun h => absurd h h1⟩
    · rw [if_neg h2]
      exact ⟨fun h => absurd h (by decide), fun h => absurd h h1⟩
theorem lgc_eq {x y : Int64} : lg_cmp x y = 0 ↔ x = y := by
  unfold lg_cmp
  by_cases h1 : x > y
  · rw [if_pos h1]
    refine ⟨fun h => absurd h (by decide), fun h => ?_⟩
    subst h
    rw [gt_iff_lt, Int64.lt_iff_toInt_lt] at h1
    omega
  · rw [if_neg h1]
    by_cases h2 : x = y
    · rw [if_pos h2]
      exact ⟨fun _ => h2, fun _ => rfl⟩
    · rw [if_neg h2]
      exact ⟨fun h => absurd h (by decide), fun h => absurd h h2⟩
/-- the reference's 'in' over ints -/
theorem in64 {x : Int32} {L U : Int64} {n : Nat} (hL : L.toInt = 0) (hU : U.toInt = (n : Int) - 1) : (L ≤ x.toInt64 ∧ x.toInt64 ≤ U) ↔ inR n x := by
  rw [inR_def, Int64.le_iff_toInt_le, Int64.le_iff_toInt_le, Int32.toInt_toInt64, hL, hU]
  omega
theorem in64_let {x : Int32} {L U : Int64} (hL : L.toInt = 1) (hU : U.toInt = 126) : (L ≤ x.toInt64 ∧ x.toInt64 ≤ U) ↔ letP x := by
  unfold letP
  rw [Int64.le_iff_toInt_le, Int64.le_iff_toInt_le, Int32.toInt_toInt64, hL, hU, Int32.lt_iff_toInt_lt, Int32.le_iff_toInt_le, nI_toInt (show 1 < 2 ^ 31 by decide), nI_toInt (show 126 < 2 ^ 31 by decide)]
  omega
theorem ch_top {n : Nat} (h : n ≤ 6) : (Int32.toInt64 (nI n - nI 1)).toInt = (n : Int) - 1 := by
  rw [Int32.toInt_toInt64]
  exact pk_sub_toInt (by omega) (by decide)
/-! the reference's rows -/
def rK (m : Nat → Int32) : Nat → Int32 := fun c => m (4 * c)
def rS (m : Nat → Int32) : Nat → Int32 := fun c => m (4 * c + 1)
def rN (m : Nat → Int32) : Nat → Int32 := fun c => m (4 * c + 2)
def rI (m : Nat → Int32) : Nat → Int32 := fun c => m (4 * c + 3)
def hC (m : Nat → Int32) : Nat → Int32 := fun i => m (3 * i)
def hW (m : Nat → Int32) : Nat → Int32 := fun i => m (3 * i + 1)
def hT (m : Nat → Int32) : Nat → Int32 := fun i => m (3 * i + 2)
abbrev GS (f : Nat → Int32) : Prop := ∀ i, ∃ s, s < 10 ∧ f i = nI s
abbrev GR (f : Nat → Int32) : Prop := ∀ i, ∃ q, q < 12 ∧ f i = nI q
abbrev GN (f : Nat → Int32) : Prop := ∀ i, f i = -1 ∨ ∃ q, q < 12 ∧ f i = nI q
abbrev GI (f : Nat → Int32) : Prop := ∀ i, f i = nI 0 ∨ f i = nI 1
theorem nI_sub_add {a b : Int32} : a - b + nI 12 = a + nI 12 - b := by
  rw [Int32.sub_eq_add_neg, Int32.sub_eq_add_neg, Int32.add_assoc, Int32.add_assoc, Int32.add_comm (-b)]
theorem rm_N {a d : Nat} (ha : a < 2 ^ 31) (h0 : 0 < d) (hd : d < 2 ^ 31) : rm (nI a) (nI d) = nI (a % d) := pk_rem ha h0 hd
theorem rm_r {r : Int32} (h : ∃ q, q < 12 ∧ r = nI q) : rm r (nI 12) = r := by
  obtain ⟨q, hq, rfl⟩ := h
  rw [rm_N (by omega) (by decide) (by decide), Nat.mod_eq_of_lt hq]
theorem tbM1 {sl r : Int32} (h : ∃ q, q < 12 ∧ r = nI q) : rm r (nI 12) = tb (nI 1) sl r := by
  unfold tb
  rw [if_pos rfl]
  exact rm_r h
theorem tbM2 {sl r : Int32} : rm (sl - r + nI 12) (nI 12) = tb (nI 2) sl r := by
  unfold tb
  rw [if_neg (by decide), if_pos rfl, nI_sub_add]
theorem tbM3 {sl r : Int32} : rm (r - rm r (nI 2) + sl) (nI 12) = tb (nI 3) sl r := by
  unfold tb
  rw [if_neg (by decide), if_neg (by decide), if_pos rfl]
theorem tbM4 {sl r : Int32} : rm (nI 2 * r) (nI 12) = tb (nI 4) sl r := by
  unfold tb
  rw [if_neg (by decide), if_neg (by decide), if_neg (by decide), if_pos rfl]
theorem tbM5 {k sl r : Int32} (h1 : ¬ k = nI 1) (h2 : ¬ k = nI 2) (h3 : ¬ k = nI 3) (h4 : ¬ k = nI 4) : rm (r + sl) (nI 12) = tb k sl r := by
  unfold tb
  rw [if_neg h1, if_neg h2, if_neg h3, if_neg h4]
/-- what is taught is a rule -/
theorem tb_R {k sl r : Int32} (hs : ∃ s, s < 10 ∧ sl = nI s) (hr : ∃ q, q < 12 ∧ r = nI q) : ∃ q, q < 12 ∧ tb k sl r = nI q := by
  obtain ⟨s, hs, rfl⟩ := hs
  obtain ⟨q, hq, rfl⟩ := hr
  unfold tb
  by_cases h1 : k = nI 1
  · rw [if_pos h1]; exact ⟨q, hq, rfl⟩
  · rw [if_neg h1]
    by_cases h2 : k = nI 2
    · rw [if_pos h2, nI_add, pk_sub (by omega), rm_N (by omega) (by decide) (by decide)]
      exact ⟨_, Nat.mod_lt _ (by decide), rfl⟩
    · rw [if_neg h2]
      by_cases h3 : k = nI 3
      · rw [if_pos h3, rm_N (by omega) (by decide) (by decide), pk_sub (Nat.mod_le _ _), nI_add, rm_N (by omega) (by decide) (by decide)]
        exact ⟨_, Nat.mod_lt _ (by decide), rfl⟩
      · rw [if_neg h3]
        by_cases h4 : k = nI 4
        · rw [if_pos h4, pk_mul, rm_N (by omega) (by decide) (by decide)]
          exact ⟨_, Nat.mod_lt _ (by decide), rfl⟩
        · rw [if_neg h4, nI_add, rm_N (by omega) (by decide) (by decide)]
          exact ⟨_, Nat.mod_lt _ (by decide), rfl⟩
theorem tb_ne {k sl r : Int32} (hs : ∃ s, s < 10 ∧ sl = nI s) (hr : ∃ q, q < 12 ∧ r = nI q) : ¬ tb k sl r = -1 := by
  obtain ⟨q, hq, e⟩ := tb_R (k := k) hs hr
  rw [e]
  exact nI_ne_m1 (by omega)
theorem atF_R {fk fs : Nat → Int32} (hs : GS fs) : ∀ (d k : Nat) (r : Int32), (∃ q, q < 12 ∧ r = nI q) → ∃ q, q < 12 ∧ atF fk fs k d r = nI q
  | 0, _, _, h => h
  | d + 1, k, _, h => atF_R hs d (k + 1) _ (tb_R (hs k) h)
theorem wt_R {fk fs fn fi : Nat → Int32} {c : Nat} (hs : GS fs) (hn : GN fn) : wt fk fs fn fi c = -1 ∨ ∃ q, q < 12 ∧ wt fk fs fn fi c = nI q := by
  unfold wt
  by_cases h : fn c = -1 ∨ ¬ fi c = nI 0
  · rw [if_pos h]; exact Or.inl rfl
  · rw [if_neg h]
    exact Or.inr (tb_R (hs c) ((hn c).resolve_left (fun q => h (Or.inl q))))
theorem ill1 {x : Int32} (h : x = nI 0 ∨ x = nI 1) (q : x = nI 1) : nI 1 = if ¬ x = nI 0 then nI 1 else nI 0 := (if_pos (by rw [q]; decide)).symm
theorem ill0 {x : Int32} (h : x = nI 0 ∨ x = nI 1) (q : ¬ x = nI 1) : nI 0 = if ¬ x = nI 0 then nI 1 else nI 0 := (if_neg (not_not_intro (h.resolve_right q))).symm
def cpF (f g : Nat → Int32) (k : Nat) : Nat → Int32 := fun j => if j < k then f j else g j
theorem cpF_0 {f g : Nat → Int32} : g = cpF f g 0 := by
  funext j
  simp [cpF]
theorem cpF_s {f g : Nat → Int32} {k : Nat} : upd (cpF f g k) k (f k) = cpF f g (k + 1) := by
  funext j
  unfold upd cpF
  by_cases h1 : j = k
  · subst h1; rw [if_pos rfl, if_pos (Nat.lt_succ_self _)]
  · rw [if_neg h1]
    by_cases h2 : j < k
    · rw [if_pos h2, if_pos (show j < k + 1 by omega)]
    · rw [if_neg h2, if_neg (show ¬ j < k + 1 by omega)]
theorem cpF_e {f g : Nat → Int32} {n : Nat} : ∀ j, j < n → cpF f g n j = f j := fun j hj => if_pos hj
theorem upd_back {f : Nat → Int32} {k : Nat} {x : Int32} : upd (upd f k x) k (f k) = f := by
  funext j
  unfold upd
  by_cases h : j = k
  · subst h; rw [if_pos rfl]
  · rw [if_neg h, if_neg h]
/-- rows whose 'known' column is f -/
def setN (m f : Nat → Int32) : Nat → Int32 := fun j => if j % 4 = 2 then f (j / 4) else m j
theorem rK_setN {m f : Nat → Int32} : rK (setN m f) = rK m := by
  funext c
  unfold rK setN
  rw [if_neg (by omega)]
theorem rS_setN {m f : Nat → Int32} : rS (setN m f) = rS m := by
  funext c
  unfold rS setN
  rw [if_neg (by omega)]
theorem rI_setN {m f : Nat → Int32} : rI (setN m f) = rI m := by
  funext c
  unfold rI setN
  rw [if_neg (by omega)]
theorem rN_setN {m f : Nat → Int32} : rN (setN m f) = f := by
  funext c
  unfold rN setN
  rw [if_pos (by omega)]
  congr 1
  omega
theorem setN_self {m : Nat → Int32} : m = setN m (rN m) := by
  funext j
  unfold setN rN
  by_cases h : j % 4 = 2
  · rw [if_pos h]; congr 1; omega
  · rw [if_neg h]
theorem setN_upd {m f : Nat → Int32} {i : Nat} {x : Int32} : upd (setN m f) (4 * i + 6) x = setN m (upd f (i + 1) x) := by
  funext j
  unfold upd setN
  by_cases h : j = 4 * i + 6
  · subst h
    rw [if_pos rfl, if_pos (by omega)]
    exact (if_pos (by omega)).symm
  · rw [if_neg h]
    by_cases h2 : j % 4 = 2
    · rw [if_pos h2, if_pos h2]
      exact (if_neg (by omega)).symm
    · rw [if_neg h2, if_neg h2]
theorem updN {m : Nat → Int32} {c : Nat} {x : Int32} : upd m (4 * c + 2) x = setN m (upd (rN m) c x) := by
  rw [setN_self (m := upd m (4 * c + 2) x)]
  funext j
  unfold setN rN upd
  by_cases h2 : j % 4 = 2
  · rw [if_pos h2, if_pos h2]
    by_cases h3 : j / 4 = c
    · rw [if_pos h3, if_pos (by omega)]
    · rw [if_neg h3, if_neg (by omega)]
  · rw [if_neg h2, if_neg h2, if_neg (by omega)]
/-- the same of the 'ill' column and of the 'slip' column -/
def setI (m f : Nat → Int32) : Nat → Int32 := fun j => if j % 4 = 3 then f (j / 4) else m j
def setS (m f : Nat → Int32) : Nat → Int32 := fun j => if j % 4 = 1 then f (j / 4) else m j
theorem rK_setI {m f : Nat → Int32} : rK (setI m f) = rK m := by
  funext c
  unfold rK setI
  rw [if_neg (by omega)]
theorem rS_setI {m f : Nat → Int32} : rS (setI m f) = rS m := by
  funext c
  unfold rS setI
  rw [if_neg (by omega)]
theorem rN_setI {m f : Nat → Int32} : rN (setI m f) = rN m := by
  funext c
  unfold rN setI
  rw [if_neg (by omega)]
theorem rI_setI {m f : Nat → Int32} : rI (setI m f) = f := by
  funext c
  unfold rI setI
  rw [if_pos (by omega)]
  congr 1
  omega
theorem rK_setS {m f : Nat → Int32} : rK (setS m f) = rK m := by
  funext c
  unfold rK setS
  rw [if_neg (by omega)]
theorem rI_setS {m f : Nat → Int32} : rI (setS m f) = rI m := by
  funext c
  unfold rI setS
  rw [if_neg (by omega)]
theorem rN_setS {m f : Nat → Int32} : rN (setS m f) = rN m := by
  funext c
  unfold rN setS
  rw [if_neg (by omega)]
theorem rS_setS {m f : Nat → Int32} : rS (setS m f) = f := by
  funext c
  unfold rS setS
  rw [if_pos (by omega)]
  congr 1
  omega
theorem setI_self {m : Nat → Int32} : m = setI m (rI m) := by
  funext j
  unfold setI rI
  by_cases h : j % 4 = 3
  · rw [if_pos h]; congr 1; omega
  · rw [if_neg h]
theorem setI_upd {m f : Nat → Int32} {i : Nat} {x : Int32} : upd (setI m f) (4 * i + 3) x = setI m (upd f i x) := by
  funext j
  unfold upd setI
  by_cases h : j = 4 * i + 3
  · subst h
    rw [if_pos rfl, if_pos (by omega)]
    exact (if_pos (by omega)).symm
  · rw [if_neg h]
    by_cases h2 : j % 4 = 3
    · rw [if_pos h2, if_pos h2]
      exact (if_neg (by omega)).symm
    · rw [if_neg h2, if_neg h2]
theorem updI {m : Nat → Int32} {c : Nat} {x : Int32} : upd m (4 * c + 3) x = setI m (upd (rI m) c x) := by
  have h := setI_upd (m := m) (f := rI m) (i := c) (x := x)
  rwa [← setI_self] at h
theorem updS {m : Nat → Int32} {c : Nat} {x : Int32} : upd m (4 * c + 1) x = setS m (upd (rS m) c x) := by
  funext j
  unfold setS rS upd
  by_cases h2 : j % 4 = 1
  · rw [if_pos h2]
    by_cases h3 : j / 4 = c
    · rw [if_pos (by omega), if_pos h3]
    · rw [if_neg (by omega), if_neg h3]; congr 1; omega
  · rw [if_neg h2, if_neg (by omega)]
theorem setN_id {m f : Nat → Int32} (h : f = rN m) : m = setN m f := by rw [h]; exact setN_self
theorem setI_id {m f : Nat → Int32} (h : f = rI m) : m = setI m f := by rw [h]; exact setI_self
theorem setS_id {m f : Nat → Int32} (h : f = rS m) : m = setS m f := by
  rw [h]
  funext j
  unfold setS rS
  by_cases h : j % 4 = 1
  · rw [if_pos h]; congr 1; omega
  · rw [if_neg h]
