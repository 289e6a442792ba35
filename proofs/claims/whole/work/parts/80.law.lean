/-! the law: what the two hold alike -/
def JM (mr : Nat → Int32) (n : Nat) : Prop := n ≤ 6 ∧ GS (rS mr) ∧ GN (rN mr) ∧ GI (rI mr)
def JH (mh : Nat → Int32) (h : Nat) : Prop := h ≤ 8 ∧ GR (hW mh)
def JP (mp : Nat → Int32) (pn : Nat) : Prop := pn ≤ 20 ∧ GP mp
def JK (n_k : Nat) (fi_k : Nat → Int32) : Prop := n_k ≤ 6 ∧ GI fi_k
def KP (mkr mkh fk_k fs_k fn_k fi_k fc_k fw_k ft_k : Nat → Int32) (n n_k h_k kh : Nat) (sr ks kth ktt th_k tt_k : Int32) : Prop := (n_k = 0 ∧ ¬ ks = sr) ∨ (n_k = n ∧ 1 ≤ n ∧ ks = sr ∧ (fk_k = rK mkr ∧ fs_k = rS mkr ∧ fn_k = rN mkr ∧ fi_k = rI mkr) ∧ (fc_k = hC mkh ∧ fw_k = hW mkh ∧ ft_k = hT mkh) ∧ (th_k = kth ∧ tt_k = ktt ∧ h_k = kh) ∧ JM mkr n ∧ JH mkh kh)
def CN (sr ks : Int32) (j : Nat) : Prop := 0 ≤ sr.toInt ∧ sr.toInt ≤ (j : Int) ∧ ks.toInt ≤ sr.toInt
theorem JM_tell {mr : Nat → Int32} {n : Nat} {x r : Int32} (h : JM mr n) : JM (setN mr (tellN n (rN mr) x r)) n := by
  obtain ⟨h1, h2, h3, h4⟩ := h
  refine ⟨h1, by rw [rS_setN]; exact h2, ?_, by rw [rI_setN]; exact h4⟩
  rw [rN_setN]
  unfold tellN
  split
  · rename_i q
    exact GN_upd h3 (Or.inr (inR_of q.2))
  · exact h3
theorem GI_upd {f : Nat → Int32} {k : Nat} {x : Int32} (h : GI f) (hx : x = nI 0 ∨ x = nI 1) : GI (upd f k x) := fun i => by
  unfold upd
  split
  · exact hx
  · exact h i
theorem GS_upd {f : Nat → Int32} {k : Nat} {x : Int32} (h : GS f) (hx : ∃ q, q < 10 ∧ x = nI q) : GS (upd f k x) := fun i => by
  unfold upd
  split
  · exact hx
  · exact h i
theorem JM_ill {mr : Nat → Int32} {n : Nat} {x z : Int32} (hz : z = nI 0 ∨ z = nI 1) (h : JM mr n) : JM (setI mr (illN n (rI mr) x z)) n := by
  obtain ⟨h1, h2, h3, h4⟩ := h
  refine ⟨h1, by rw [rS_setI]; exact h2, by rw [rN_setI]; exact h3, ?_⟩
  rw [rI_setI]
  unfold illN
  split
  · exact GI_upd h4 hz
  · exact h4
theorem JM_slip {mr : Nat → Int32} {n : Nat} {x v : Int32} (h : JM mr n) : JM (setS mr (slipN n (rS mr) x v)) n := by
  obtain ⟨h1, h2, h3, h4⟩ := h
  refine ⟨h1, ?_, by rw [rN_setS]; exact h3, by rw [rI_setS]; exact h4⟩
  rw [rS_setS]
  unfold slipN
  split
  · rename_i q
    exact GS_upd h2 (inR_of q.2)
  · exact h2
theorem JM_th {mr : Nat → Int32} {n : Nat} (h : JM mr n) : JM (setN mr (thN n (rN mr) (htF (rK mr) (rS mr) (rI mr) (n - 1) (rN mr) 0))) n := by
  obtain ⟨h1, h2, h3, h4⟩ := h
  refine ⟨h1, by rw [rS_setN]; exact h2, ?_, by rw [rI_setN]; exact h4⟩
  rw [rN_setN]
  unfold thN
  split
  · exact h3
  · exact htF_GN h2 _ _ _ h3
theorem mf_gd {pg : Nat → Int32} : ∀ (d k p : Nat), k + d ≤ mf pg d k → k ≤ p → p < k + d → gdP p (pg p)
  | 0, k, p, _, h1, h2 => absurd h2 (by omega)
  | d + 1, k, p, h, h1, h2 => by
    rw [mf] at h
    by_cases q : gdP k (pg k)
    · rw [if_pos q] at h
      rcases Nat.lt_or_ge k p with z | z
      · exact mf_gd d (k + 1) p (by omega) z (by omega)
      · obtain rfl : p = k := by omega
        exact q
    · rw [if_neg q] at h
      omega
theorem dg_10 {x : Int32} (h : dgP x) : ∃ q, q < 10 ∧ x - nI 48 = nI q := by
  have h1 := h.1
  have h2 := h.2
  rw [Int32.lt_iff_toInt_lt, nI_toInt (show 48 < 2 ^ 31 by decide)] at h1
  rw [Int32.le_iff_toInt_le, nI_toInt (show 57 < 2 ^ 31 by decide)] at h2
  obtain ⟨k, hk, rfl⟩ := inR_of (n := 58) (x := x) (inR_def.mpr ⟨by omega, by omega⟩)
  rw [nI_toInt (by omega)] at h1
  exact ⟨k - 48, by omega, (show ∀ y : Fin 58, 48 ≤ y.val → nI y.val - nI 48 = nI (y.val - 48) by decide +kernel) ⟨k, hk⟩ (by show 48 ≤ k; omega)⟩
theorem JM_rd {mr mp : Nat → Int32} {n pn : Nat} (h : JM mr n) : JM (if scP mp pn then rdR mp mr ((pn + 1) / 3) else mr) (if scP mp pn then (pn + 1) / 3 else n) := by
  by_cases q : scP mp pn
  · rw [if_pos q, if_pos q]
    obtain ⟨h1, h2, h3, h4⟩ := h
    have h5 := scP_iff.mp q
    refine ⟨(scP_6 q).2, ?_, ?_, ?_⟩
    · rw [rS_rdR]
      intro i
      unfold rdS
      by_cases z : i < (pn + 1) / 3
      · rw [if_pos z]
        exact dg_10 ((gd_1 (by omega)).mp (mf_gd pn 0 (3 * i + 1) (by omega) (by omega) (by omega)))
      · rw [if_neg z]
        exact h2 i
    · rw [rN_rdR]
      intro i
      unfold rdC
      by_cases z : i < (pn + 1) / 3
      · rw [if_pos z]; exact Or.inl rfl
      · rw [if_neg z]; exact h3 i
    · rw [rI_rdR]
      intro i
      unfold rdC
      by_cases z : i < (pn + 1) / 3
      · rw [if_pos z]; exact Or.inl rfl
      · rw [if_neg z]; exact h4 i
  · rw [if_neg q, if_neg q]
    exact h
theorem rd_K {mr mp : Nat → Int32} {pn : Nat} : (if scP mp pn then rdK mp (rK mr) ((pn + 1) / 3) else rK mr) = rK (if scP mp pn then rdR mp mr ((pn + 1) / 3) else mr) := by
  split
  · exact rK_rdR.symm
  · rfl
theorem rd_S {mr mp : Nat → Int32} {pn : Nat} : (if scP mp pn then rdS mp (rS mr) ((pn + 1) / 3) else rS mr) = rS (if scP mp pn then rdR mp mr ((pn + 1) / 3) else mr) := by
  split
  · exact rS_rdR.symm
  · rfl
theorem rd_N {mr mp : Nat → Int32} {pn : Nat} : (if scP mp pn then rdC (-1) (rN mr) ((pn + 1) / 3) else rN mr) = rN (if scP mp pn then rdR mp mr ((pn + 1) / 3) else mr) := by
  split
  · exact rN_rdR.symm
  · rfl
theorem rd_I {mr mp : Nat → Int32} {pn : Nat} : (if scP mp pn then rdC (nI 0) (rI mr) ((pn + 1) / 3) else rI mr) = rI (if scP mp pn then rdR mp mr ((pn + 1) / 3) else mr) := by
  split
  · exact rI_rdR.symm
  · rfl
theorem JH_0 {mh : Nat → Int32} {h : Nat} (g : JH mh h) : JH mh 0 := ⟨Nat.zero_le _, g.2⟩
theorem hC_hear {n h : Nat} {x kw tg : Int32} {m : Nat → Int32} : hearF n h x kw tg (hC m) x = hC (hearM n h x kw tg m) := by
  unfold hearF hearM
  split
  · funext i
    unfold hC upd
    rw [if_neg (show ¬ 3 * i = 3 * h + 2 by omega), if_neg (show ¬ 3 * i = 3 * h + 1 by omega)]
    by_cases q : i = h
    · rw [if_pos q, if_pos (by omega)]
    · rw [if_neg q, if_neg (by omega)]
  · rfl
theorem hW_hear {n h : Nat} {x kw tg : Int32} {m : Nat → Int32} : hearF n h x kw tg (hW m) kw = hW (hearM n h x kw tg m) := by
  unfold hearF hearM
  split
  · funext i
    unfold hW upd
    rw [if_neg (show ¬ 3 * i + 1 = 3 * h + 2 by omega)]
    by_cases q : i = h
    · rw [if_pos q, if_pos (by omega)]
    · rw [if_neg q, if_neg (by omega), if_neg (by omega)]
  · rfl
theorem hT_hear {n h : Nat} {x kw tg : Int32} {m : Nat → Int32} : hearF n h x kw tg (hT m) tg = hT (hearM n h x kw tg m) := by
  unfold hearF hearM
  split
  · funext i
    unfold hT upd
    by_cases q : i = h
    · rw [if_pos q, if_pos (by omega)]
    · rw [if_neg q, if_neg (by omega), if_neg (by omega), if_neg (by omega)]
  · rfl
theorem JH_hear {mh : Nat → Int32} {n h : Nat} {x kw tg : Int32} (g : JH mh h) : JH (hearM n h x kw tg mh) (hearH n h x kw tg) := by
  obtain ⟨g1, g2⟩ := g
  refine ⟨?_, ?_⟩
  · unfold hearH
    split <;> omega
  · rw [← hW_hear]
    unfold hearF
    split
    · rename_i q
      intro i
      unfold upd
      split
      · exact inR_of q.2.1
      · exact g2 i
    · exact g2
theorem JP_0 {mp : Nat → Int32} {pn : Nat} (g : JP mp pn) : JP mp 0 := ⟨Nat.zero_le _, g.2⟩
theorem letP_q {x : Int32} (h : letP x) : ∃ q, q < 127 ∧ x = nI q := by
  have h1 := h.1
  have h2 := h.2
  rw [Int32.lt_iff_toInt_lt, nI_toInt (show 1 < 2 ^ 31 by decide)] at h1
  rw [Int32.le_iff_toInt_le, nI_toInt (show 126 < 2 ^ 31 by decide)] at h2
  exact inR_of (n := 127) (x := x) (inR_def.mpr ⟨by omega, by omega⟩)
theorem JP_let {mp : Nat → Int32} {pn : Nat} {x : Int32} (g : JP mp pn) : JP (letG pn x mp) (letN pn x) := by
  obtain ⟨g1, g2⟩ := g
  unfold letG letN
  by_cases q : letP x ∧ ¬ 20 ≤ pn
  · rw [if_pos q, if_pos q]
    refine ⟨by omega, fun i => ?_⟩
    unfold upd
    split
    · exact letP_q q.1
    · exact g2 i
  · rw [if_neg q, if_neg q]
    exact ⟨g1, g2⟩
theorem ill_al {mr : Nat → Int32} {n : Nat} {x : Int32} (h : JM mr n) : illA n (rI mr) x = if inR n x then rI mr (ix x) else -101 := by
  unfold illA
  split
  · rcases h.2.2.2 (ix x) with q | q
    · rw [q]; rfl
    · rw [q]; rfl
  · rfl
theorem CN_s {sr ks : Int32} {j : Nat} (h : CN sr ks j) : CN sr ks (j + 1) := ⟨h.1, by have := h.2.1; omega, h.2.2⟩
theorem sr_1 {sr : Int32} (h0 : 0 ≤ sr.toInt) (h : sr.toInt ≤ 4096) : (sr + nI 1).toInt = sr.toInt + 1 := by
  obtain ⟨k, hk, rfl⟩ := inR_of (n := 4097) (x := sr) (inR_def.mpr ⟨h0, by omega⟩)
  rw [nI_add, nI_toInt (by omega), nI_toInt (by omega)]
  omega
theorem CN_school {sr ks : Int32} {j : Nat} {P : Prop} [Decidable P] (hj : j ≤ 4096) (h : CN sr ks j) : CN (if P then sr + nI 1 else sr) ks (j + 1) := by
  obtain ⟨h1, h2, h3⟩ := h
  split
  · have := sr_1 h1 (by omega)
    exact ⟨by omega, by omega, by omega⟩
  · exact ⟨h1, by omega, h3⟩
theorem sr_ne {sr ks : Int32} {j : Nat} (hj : j ≤ 4096) (h : CN sr ks j) : ¬ ks = sr + nI 1 := fun q => by
  obtain ⟨h1, h2, h3⟩ := h
  have := sr_1 h1 (by omega)
  rw [q] at h3
  omega
theorem CN_image {sr ks : Int32} {j : Nat} {P : Prop} [Decidable P] (h : CN sr ks j) : CN sr (if P then ks else sr) (j + 1) := by
  obtain ⟨h1, h2, h3⟩ := h
  split
  · exact ⟨h1, by omega, h3⟩
  · exact ⟨h1, by omega, Int.le_refl _⟩
theorem sub4 {L k : Nat} (hL : L ≤ 2048) (hk : k < 8192) : nI L - nI 4 < nI k ↔ ¬ k + 4 ≤ L := by
  rcases Nat.lt_or_ge L 4 with q | q
  · refine ⟨fun _ => by omega, fun _ => ?_⟩
    have h1 : nI L - nI 4 < nI 0 := (show ∀ y : Fin 4, nI y.val - nI 4 < nI 0 by decide +kernel) ⟨L, q⟩
    exact Int32.lt_of_lt_of_le h1 (nI_pos' (by omega))
  · rw [pk_sub q]
    rw [Int32.lt_iff_toInt_lt, nI_toInt (by omega), nI_toInt (by omega)]
    omega
