def chI (h : Nat) (fk fs fn fi fc fw ft : Nat → Int32) (c : Nat) (w : Int32) : Int32 := if w = nI 0 then fk c else if w = nI 1 then fs c else if w = nI 2 then fn c else if w = nI 3 then (if fi c = 0 then nI 0 else nI 1) else if w = nI 4 then wt fk fs fn fi c else if w = nI 5 then slF fc fw ft (fk c) (nI c) h 10 else if w = nI 6 then bqA (slF fc fw ft (fk c) (nI c) h 10) (bqF (fun r => wlF (slF fc fw ft (fk c) (nI c) h 10) (fk c) (nI r) 10 12) 12).1 else -102
theorem chF_I {n h : Nat} {fk fs fn fi fc fw ft : Nat → Int32} {c : Nat} {w : Int32} (hc : c < n) (hn : n ≤ 6) : chF n h fk fs fn fi fc fw ft (nI c) w = chI h fk fs fn fi fc fw ft c w := by
  unfold chF chI
  rw [if_pos (inR_nI hc (by omega)), ix_nI (by omega)]
section CH
variable {h c : Nat} {mr mh : Nat → Int32}
theorem chI0 : mr (4 * c + 0) = chI h (rK mr) (rS mr) (rN mr) (rI mr) (hC mh) (hW mh) (hT mh) c (nI 0) := by
  unfold chI
  rw [if_pos rfl]
  rfl
theorem chI1 : mr (4 * c + 1) = chI h (rK mr) (rS mr) (rN mr) (rI mr) (hC mh) (hW mh) (hT mh) c (nI 1) := by
  unfold chI
  rw [if_neg (by decide), if_pos rfl]
  rfl
theorem chI2 : mr (4 * c + 2) = chI h (rK mr) (rS mr) (rN mr) (rI mr) (hC mh) (hW mh) (hT mh) c (nI 2) := by
  unfold chI
  rw [if_neg (by decide), if_neg (by decide), if_pos rfl]
  rfl
theorem chI3 (g : rI mr c = nI 0 ∨ rI mr c = nI 1) : mr (4 * c + 3) = chI h (rK mr) (rS mr) (rN mr) (rI mr) (hC mh) (hW mh) (hT mh) c (nI 3) := by
  unfold chI
  rw [if_neg (by decide), if_neg (by decide), if_neg (by decide), if_pos rfl]
  show rI mr c = _
  rcases g with q | q
  · rw [q]; rfl
  · rw [q]; rfl
theorem chI4 : wt (rK mr) (rS mr) (rN mr) (rI mr) c = chI h (rK mr) (rS mr) (rN mr) (rI mr) (hC mh) (hW mh) (hT mh) c (nI 4) := by
  unfold chI
  rw [if_neg (by decide), if_neg (by decide), if_neg (by decide), if_neg (by decide), if_pos rfl]
theorem chI5 : slF (hC mh) (hW mh) (hT mh) (rK mr c) (nI c) h 10 = chI h (rK mr) (rS mr) (rN mr) (rI mr) (hC mh) (hW mh) (hT mh) c (nI 5) := by
  unfold chI
  rw [if_neg (by decide), if_neg (by decide), if_neg (by decide), if_neg (by decide), if_neg (by decide), if_pos rfl]
theorem chI6 : bqA (slF (hC mh) (hW mh) (hT mh) (rK mr c) (nI c) h 10) (bqF (fun r9 => wlF (slF (hC mh) (hW mh) (hT mh) (rK mr c) (nI c) h 10) (rK mr c) (nI r9) 10 12) 12).1 = chI h (rK mr) (rS mr) (rN mr) (rI mr) (hC mh) (hW mh) (hT mh) c (nI 6) := by
  unfold chI
  rw [if_neg (by decide), if_neg (by decide), if_neg (by decide), if_neg (by decide), if_neg (by decide), if_neg (by decide), if_pos rfl]
end CH
theorem soonD {fn fi : Nat → Int32} {n : Nat} (h : ¬ n = 0) : ttF fn fi n = soonA fn fi n := (if_neg h).symm
theorem cureD {fk fs : Nat → Int32} {n : Nat} {w : Int32} (hw : inR 2 w) (h : ¬ n = 0) (hn : n ≤ 6) : (if w = 0 then (bcF (fun i9 => ucF fk (cuF fs (nI i9)) n) (ucF fk fs n) n).1 else nI (bcF (fun i9 => ucF fk (cuF fs (nI i9)) n) (ucF fk fs n) n).2) = cureA n fk fs w := by
  unfold cureA
  rw [if_pos hw, if_neg h]
  exact cure_e hn
def teT (fk fs : Nat → Int32) (n : Nat) (fn fi : Nat → Int32) (x : Nat) (tp : Int32) : Nat → Int32
  | 0 => tp
  | k + 1 => if ttP fk fs (upd (teS fk fs n fn fi x k).1 0 (nI (nx (teS fk fs n fn fi x k).2.2.1 / 65536 % 12))) (ilF (nx (nx (teS fk fs n fn fi x k).2.2.1) / 65536 % (n + 1)) n (teS fk fs n fn fi x k).2.1) (n - 1) then nI 1 else nI 0
theorem htF_GN {fk fs fi : Nat → Int32} (hs : GS fs) : ∀ (k : Nat) (g : Nat → Int32) (t : Nat), GN g → GN (htF fk fs fi k g t).1
  | 0, _, _, h => h
  | k + 1, g, t, h => by
    rw [htF]
    split
    · exact htF_GN hs k _ _ (GN_upd h (wt_R hs h))
    · exact htF_GN hs k _ _ h
theorem GN_d {f : Nat → Int32} {x : Nat} (h : GN f) : GN (upd f 0 (nI (x % 12))) := GN_upd h (Or.inr ⟨_, Nat.mod_lt _ (by decide), rfl⟩)
theorem GI_il {f : Nat → Int32} {q n : Nat} (h : GI f) : GI (ilF q n f) := by
  intro i
  unfold ilF
  by_cases h1 : i < n
  · rw [if_pos h1]
    by_cases h2 : i = q
    · rw [if_pos h2]; exact Or.inr rfl
    · rw [if_neg h2]; exact Or.inl rfl
  · rw [if_neg h1]; exact h i
theorem teS_GN {fk fs fn fi : Nat → Int32} {n x : Nat} (hs : GS fs) (hn : GN fn) : ∀ k, GN (teS fk fs n fn fi x k).1
  | 0 => hn
  | k + 1 => htF_GN hs _ _ _ (GN_d (teS_GN hs hn k))
theorem teS_GI {fk fs fn fi : Nat → Int32} {n x : Nat} (hi : GI fi) : ∀ k, GI (teS fk fs n fn fi x k).2.1
  | 0 => hi
  | k + 1 => GI_il (teS_GI hi k)
/-- the rows while terms run -/
def rT (m f g : Nat → Int32) : Nat → Int32 := setI (setN m f) g
theorem rT_0 {m : Nat → Int32} : m = rT m (rN m) (rI m) := by
  unfold rT
  rw [← setN_self]
  exact setI_self
theorem rT_K {m f g : Nat → Int32} : rK (rT m f g) = rK m := by unfold rT; rw [rK_setI, rK_setN]
theorem rT_S {m f g : Nat → Int32} : rS (rT m f g) = rS m := by unfold rT; rw [rS_setI, rS_setN]
theorem rT_N {m f g : Nat → Int32} : rN (rT m f g) = f := by unfold rT; rw [rN_setI, rN_setN]
theorem rT_I {m f g : Nat → Int32} : rI (rT m f g) = g := by unfold rT; rw [rI_setI]
theorem rT_setN {m f g f2 : Nat → Int32} : setN (rT m f g) f2 = rT m f2 g := by
  funext j
  unfold rT setN setI
  by_cases h : j % 4 = 2
  · rw [if_pos h, if_neg (by omega)]
    by_cases h2 : j % 4 = 3
    · omega
    · exact (if_pos h).symm
  · rw [if_neg h]
    by_cases h2 : j % 4 = 3
    · rw [if_pos h2, if_pos h2]
    · rw [if_neg h2, if_neg h2]
      exact (if_neg h).trans (if_neg h).symm
theorem rT_upd0 {m f g : Nat → Int32} {x : Int32} : upd (rT m f g) 2 x = rT m (upd f 0 x) g := by
  have h := updN (m := rT m f g) (c := 0) (x := x)
  rw [rT_N, rT_setN] at h
  exact h
theorem rT_t {m f g : Nat → Int32} {q k : Nat} (h : k = q) : upd (rT m f (ilF q k g)) (4 * k + 3) (nI 1) = rT m f (ilF q (k + 1) g) := by
  unfold rT
  rw [setI_upd, ilF_t h]
theorem rT_f {m f g : Nat → Int32} {q k : Nat} (h : ¬ k = q) : upd (rT m f (ilF q k g)) (4 * k + 3) (nI 0) = rT m f (ilF q (k + 1) g) := by
  unfold rT
  rw [setI_upd, ilF_f h]
theorem rT_top {m f g : Nat → Int32} {n : Nat} (hn : 1 ≤ n) : rT m f g (4 * n - 2) = f (n - 1) := by
  have h : rN (rT m f g) (n - 1) = f (n - 1) := by rw [rT_N]
  unfold rN at h
  rwa [show 4 * (n - 1) + 2 = 4 * n - 2 by omega] at h
theorem tm64 {a w : Int32} {L U : Int64} (hL : L.toInt = 1) (hU : U.toInt = 60) : (L ≤ a.toInt64 ∧ a.toInt64 ≤ U) ↔ inRb 61 a = true ∧ ¬ a = nI 0 := by
  rw [Int64.le_iff_toInt_le, Int64.le_iff_toInt_le, Int32.toInt_toInt64, hL, hU]
  have h := inR_def (n := 61) (x := a)
  constructor
  · intro q
    exact ⟨h.mpr (by omega), fun z => by rw [z] at q; exact absurd q.1 (by decide)⟩
  · rintro ⟨q, z⟩
    have h2 := h.mp q
    have h3 : ¬ a.toInt = 0 := fun e => z (Int32.toInt_inj.mp (by rw [e]; rfl))
    omega
theorem tmM_ok {a b w : Int32} (h1 : inRb 61 a = true ∧ ¬ a = nI 0) (h3 : ¬ b < 0) (h4 : inR 3 w) : (∃ m, 1 ≤ m ∧ m ≤ 60 ∧ a = nI m) ∧ (∃ x, x < 2147483648 ∧ b = nI x) ∧ tmb a b w = true := by
  obtain ⟨m, hm, rfl⟩ := inR_of h1.1
  have h5 : ¬ m = 0 := fun e => h1.2 (by rw [e])
  have h6 := inR_def.mp h4
  have e2 := nI_toInt (show 2 < 2 ^ 31 by decide)
  refine tm_ok (fun q => ?_) (fun q => ?_) h3 (fun q => ?_) ?_
  · exact h5 (by have := (nI_ltI (a := m) (b := 1) (by omega) (by decide)).mp q; omega)
  · have := (nI_ltI (a := 60) (b := m) (by decide) (by omega)).mp q; omega
  · rw [Int32.lt_iff_toInt_lt] at q
    have h7 : (0 : Int32).toInt = 0 := rfl
    omega
  · rw [Int32.le_iff_toInt_le]
    omega
theorem tmM_no {a b w : Int32} (q : ¬ (inRb 61 a = true ∧ ¬ a = nI 0) ∨ b < 0 ∨ ¬ inR 3 w) : ¬ tmb a b w = true := by
  intro h
  have hi := tmb_iff.mp h
  rcases q with z | z | z
  · exact z ⟨inR_def.mpr (by omega), fun e => by rw [e] at hi; exact absurd hi.1.1 (by decide)⟩
  · rw [Int32.lt_iff_toInt_lt] at z
    have h7 : (0 : Int32).toInt = 0 := rfl
    omega
  · exact z (inR_def.mpr (by omega))
theorem teB_1 {x : Int32} : x + nI 1 = if x = -1 then nI 0 else x + nI 1 := by
  by_cases h : x = -1
  · rw [if_pos h, h]; rfl
  · rw [if_neg h]
