/-! read, kept, brought back -/
section LK
variable {mr mh mkr mkh mp fk_k fs_k fn_k fi_k fc_k fw_k ft_k : Nat → Int32} {n n_k h h_k kh pn j : Nat} {sr ks kth ktt th tt th_k tt_k : Int32}
theorem JH_sc {P : Prop} [Decidable P] (g : JH mh h) : JH mh (if P then 0 else h) := by
  split
  · exact JH_0 g
  · exact g
theorem JP_sc {P : Prop} [Decidable P] (g : JP mp pn) : JP mp (if P then 0 else pn) := by
  split
  · exact JP_0 g
  · exact g
theorem JK_sc {P : Prop} [Decidable P] (g : JK n_k fi_k) : JK (if P then 0 else n_k) fi_k := by
  split
  · exact ⟨Nat.zero_le _, g.2⟩
  · exact g
theorem KP_sc {P : Prop} [Decidable P] {N : Nat} (hj : j ≤ 4096) (hC : CN sr ks j) (g : KP mkr mkh fk_k fs_k fn_k fi_k fc_k fw_k ft_k n n_k h_k kh sr ks kth ktt th_k tt_k) : KP mkr mkh fk_k fs_k fn_k fi_k fc_k fw_k ft_k (if P then N else n) (if P then 0 else n_k) h_k kh (if P then sr + nI 1 else sr) ks kth ktt th_k tt_k := by
  split
  · exact Or.inl ⟨rfl, sr_ne hj hC⟩
  · exact g
theorem JK_im (jM : JM mr n) (g : JK n_k fi_k) : JK (if n = 0 then n_k else n) (if n = 0 then fi_k else rI mr) := by
  split
  · exact g
  · exact ⟨jM.1, jM.2.2.2⟩
theorem KP_im (jM : JM mr n) (jH : JH mh h) (g : KP mkr mkh fk_k fs_k fn_k fi_k fc_k fw_k ft_k n n_k h_k kh sr ks kth ktt th_k tt_k) : KP (if n = 0 then mkr else mr) (if n = 0 then mkh else mh) (if n = 0 then fk_k else rK mr) (if n = 0 then fs_k else rS mr) (if n = 0 then fn_k else rN mr) (if n = 0 then fi_k else rI mr) (if n = 0 then fc_k else hC mh) (if n = 0 then fw_k else hW mh) (if n = 0 then ft_k else hT mh) n (if n = 0 then n_k else n) (if n = 0 then h_k else h) (if n = 0 then kh else h) sr (if n = 0 then ks else sr) (if n = 0 then kth else th) (if n = 0 then ktt else tt) (if n = 0 then th_k else th) (if n = 0 then tt_k else tt) := by
  by_cases q : n = 0
  · simp only [if_pos q]
    exact g
  · simp only [if_neg q]
    exact Or.inr ⟨rfl, by omega, rfl, ⟨rfl, rfl, rfl, rfl⟩, ⟨rfl, rfl, rfl⟩, ⟨rfl, rfl, rfl⟩, jM, jH⟩
theorem re_ans (g : KP mkr mkh fk_k fs_k fn_k fi_k fc_k fw_k ft_k n n_k h_k kh sr ks kth ktt th_k tt_k) : (if n_k = 0 then (-103 : Int32) else th_k) = if ks = sr then kth else -103 := by
  rcases g with ⟨z1, z2⟩ | ⟨z1, z2, z3, -, -, ⟨d1, d2, d3⟩, -, -⟩
  · rw [if_pos z1, if_neg z2]
  · rw [if_neg (by omega), if_pos z3, d1]
theorem re_cols (g : KP mkr mkh fk_k fs_k fn_k fi_k fc_k fw_k ft_k n n_k h_k kh sr ks kth ktt th_k tt_k) : (if n_k = 0 then rK mr else fk_k) = rK (if ks = sr then mkr else mr) ∧ (if n_k = 0 then rS mr else fs_k) = rS (if ks = sr then mkr else mr) ∧ (if n_k = 0 then rN mr else fn_k) = rN (if ks = sr then mkr else mr) ∧ (if n_k = 0 then rI mr else fi_k) = rI (if ks = sr then mkr else mr) := by
  rcases g with ⟨z1, z2⟩ | ⟨z1, z2, z3, ⟨a1, a2, a3, a4⟩, -, -, -, -⟩
  · simp [z1, z2]
  · have z4 : ¬ n_k = 0 := by omega
    simp only [if_neg z4, if_pos z3]; exact ⟨a1, a2, a3, a4⟩
theorem re_hs (g : KP mkr mkh fk_k fs_k fn_k fi_k fc_k fw_k ft_k n n_k h_k kh sr ks kth ktt th_k tt_k) : (if n_k = 0 then hC mh else fc_k) = hC (if ks = sr then mkh else mh) ∧ (if n_k = 0 then hW mh else fw_k) = hW (if ks = sr then mkh else mh) ∧ (if n_k = 0 then hT mh else ft_k) = hT (if ks = sr then mkh else mh) := by
  rcases g with ⟨z1, z2⟩ | ⟨z1, z2, z3, -, ⟨b1, b2, b3⟩, -, -, -⟩
  · simp [z1, z2]
  · have z4 : ¬ n_k = 0 := by omega
    simp only [if_neg z4, if_pos z3]; exact ⟨b1, b2, b3⟩
theorem re_n (g : KP mkr mkh fk_k fs_k fn_k fi_k fc_k fw_k ft_k n n_k h_k kh sr ks kth ktt th_k tt_k) : (if n_k = 0 then n else n_k) = n := by
  rcases g with ⟨z1, z2⟩ | ⟨z1, z2, -⟩
  · rw [if_pos z1]
  · rw [if_neg (by omega), z1]
theorem re_h (g : KP mkr mkh fk_k fs_k fn_k fi_k fc_k fw_k ft_k n n_k h_k kh sr ks kth ktt th_k tt_k) : (if n_k = 0 then h else h_k) = if ks = sr then kh else h := by
  rcases g with ⟨z1, z2⟩ | ⟨z1, z2, z3, -, -, ⟨d1, d2, d3⟩, -, -⟩
  · rw [if_pos z1, if_neg z2]
  · rw [if_neg (by omega), if_pos z3, d3]
theorem re_th (g : KP mkr mkh fk_k fs_k fn_k fi_k fc_k fw_k ft_k n n_k h_k kh sr ks kth ktt th_k tt_k) : (if n_k = 0 then th else th_k) = if ks = sr then kth else th := by
  rcases g with ⟨z1, z2⟩ | ⟨z1, z2, z3, -, -, ⟨d1, d2, d3⟩, -, -⟩
  · rw [if_pos z1, if_neg z2]
  · rw [if_neg (by omega), if_pos z3, d1]
theorem re_tt (g : KP mkr mkh fk_k fs_k fn_k fi_k fc_k fw_k ft_k n n_k h_k kh sr ks kth ktt th_k tt_k) : (if n_k = 0 then tt else tt_k) = if ks = sr then ktt else tt := by
  rcases g with ⟨z1, z2⟩ | ⟨z1, z2, z3, -, -, ⟨d1, d2, d3⟩, -, -⟩
  · rw [if_pos z1, if_neg z2]
  · rw [if_neg (by omega), if_pos z3, d2]
theorem JM_re (g : KP mkr mkh fk_k fs_k fn_k fi_k fc_k fw_k ft_k n n_k h_k kh sr ks kth ktt th_k tt_k) (jM : JM mr n) : JM (if ks = sr then mkr else mr) n := by
  rcases g with ⟨z1, z2⟩ | ⟨z1, z2, z3, -, -, -, g1, -⟩
  · rw [if_neg z2]; exact jM
  · rw [if_pos z3]; exact g1
theorem JH_re (g : KP mkr mkh fk_k fs_k fn_k fi_k fc_k fw_k ft_k n n_k h_k kh sr ks kth ktt th_k tt_k) (jH : JH mh h) : JH (if ks = sr then mkh else mh) (if ks = sr then kh else h) := by
  rcases g with ⟨z1, z2⟩ | ⟨z1, z2, z3, -, -, -, -, g2⟩
  · simp only [if_neg z2]; exact jH
  · simp only [if_pos z3]; exact g2
end LK
section LD
variable {p : Program} {l : Launch} {e : Env} {R : Room} {s : State} {m : MethodId} {args : Array Value} {below : List Frame} {meth : Method} {c : Code} {H : Heap} {locs : List Loc} {cells slots : Nat} {Q : State → Prop}
variable {cc : ByteArray} {pc : Nat} {ls : Array Slot} {rest : List Value} {A : Nat → Prop} {b L : Nat} {xs : Nat → Int32}
theorem w_sld (hexec : p.tables.exec = Jvm.exec) (hb : c.code = cc) (hX : va_X b L xs s s.heap) (hbl : b < s.heap.size) (hbA : ¬ A b) (hS : va_S A s.heap H locs) {k : Nat} (hk : k < L) (hL : L ≤ 2048) (hdg : decode cc pc = .ok (.iaload, 1))
    (kk : W p l e R s m args below meth c H locs cells slots Q (F0 m (pc + 1) ls (.int (xs k) :: rest))) : W p l e R s m args below meth c H locs cells slots Q (F0 m pc ls (.int (nI k) :: .ref b :: rest)) := by
  refine va_sld hexec hb hX hbl hbA hS (vp_in_nI hk (by omega)) hdg ?_
  rw [nI_clamp (by omega)]
  exact kk
end LD
abbrev LW (cI cZ : ClassId) (t0 g0 q0 kq0 tq0 w0 q1 q2 q3 q4 q5 q6 q7 kq1 kq2 kq3 kq4 kq5 kq6 kq7 tq1 tq2 tq3 tq4 tq5 tq6 tq7 g1 m0 m1 m2 m3 m4 m5 m6 m7 : Nat) (mr mh mp mt mv mkr mkh fk_k fs_k fn_k fi_k fc_k fw_k ft_k fk_t fs_t fn_t fi_t fc_t fw_t ft_t : Nat → Int32) (n h pn n_k h_k n_t h_t sdn kh sx : Nat) (th tt sr tp ks kth ktt th_k tt_k th_t tt_t : Int32) (hs : Int64) : va_W := [(t0, .inr (3, [.ref g0, .ref q0, .ref kq0, .ref tq0, .ref w0, .int (sr)])), (q0, .inr (2, [.ref q1, .ref q2, .ref q3, .ref q4, .ref q5, .ref q6, .ref q7, .int (nI n), .int (nI h), .int (th), .int (tt)])), (q1, .inl (cI, 6, .inl ((rK mr)))), (q2, .inl (cI, 6, .inl ((rS mr)))), (q3, .inl (cI, 6, .inl ((rN mr)))), (q4, .inl (cZ, 6, .inl ((rI mr)))), (q5, .inl (cI, 8, .inl ((hC mh)))), (q6, .inl (cI, 8, .inl ((hW mh)))), (q7, .inl (cI, 8, .inl ((hT mh)))), (kq0, .inr (2, [.ref kq1, .ref kq2, .ref kq3, .ref kq4, .ref kq5, .ref kq6, .ref kq7, .int (nI n_k), .int (nI h_k), .int (th_k), .int (tt_k)])), (kq1, .inl (cI, 6, .inl (fk_k))), (kq2, .inl (cI, 6, .inl (fs_k))), (kq3, .inl (cI, 6, .inl (fn_k))), (kq4, .inl (cZ, 6, .inl (fi_k))), (kq5, .inl (cI, 8, .inl (fc_k))), (kq6, .inl (cI, 8, .inl (fw_k))), (kq7, .inl (cI, 8, .inl (ft_k))), (tq0, .inr (2, [.ref tq1, .ref tq2, .ref tq3, .ref tq4, .ref tq5, .ref tq6, .ref tq7, .int (nI n_t), .int (nI h_t), .int (th_t), .int (tt_t)])), (tq1, .inl (cI, 6, .inl (fk_t))), (tq2, .inl (cI, 6, .inl (fs_t))), (tq3, .inl (cI, 6, .inl (fn_t))), (tq4, .inl (cZ, 6, .inl (fi_t))), (tq5, .inl (cI, 8, .inl (fc_t))), (tq6, .inl (cI, 8, .inl (fw_t))), (tq7, .inl (cI, 8, .inl (ft_t))), (g0, .inr (1, [.ref g1, .int (nI pn)])), (g1, .inl (cI, 20, .inl (mp))), (w0, .inr (0, [.long (lN sx)])), (m0, .inr (4, [.ref m1, .int (nI pn), .int (nI n), .int (th), .int (tt), .int (sr), .ref m2, .int (tp), .int (nI h), .ref m3, .ref m4, .int (nI sdn), .ref m5, .int (ks), .int (kth), .int (ktt), .int (nI kh), .ref m6, .ref m7, .long (hs)])), (m1, .inl (cI, 20, .inl (mp))), (m2, .inl (cI, 24, .inl (mr))), (m3, .inl (cI, 24, .inl (mh))), (m4, .inl (cI, 12, .inl (mt))), (m5, .inl (cI, 24, .inl (mv))), (m6, .inl (cI, 24, .inl (mkr))), (m7, .inl (cI, 24, .inl (mkh)))]
set_option maxHeartbeats 4000000 in
/-- from place pc of the law's body on, with j calls behind it -/
def LAt (p : Program) (l : Launch) (e : Env) (s : State) (m : MethodId) (below : List Frame) (meth : Method) (co : Code) (b : Nat) (A : Nat → Prop) (D : va_G) (cI cZ : ClassId) (t0 g0 q0 kq0 tq0 w0 q1 q2 q3 q4 q5 q6 q7 kq1 kq2 kq3 kq4 kq5 kq6 kq7 tq1 tq2 tq3 tq4 tq5 tq6 tq7 g1 m0 m1 m2 m3 m4 m5 m6 m7 : Nat) (k j pc : Nat) : Prop := ∀ (mr mh mp mt mv mkr mkh fk_k fs_k fn_k fi_k fc_k fw_k ft_k fk_t fs_t fn_t fi_t fc_t fw_t ft_t : Nat → Int32) (n h pn n_k h_k n_t h_t sdn kh sx : Nat) (th tt sr tp ks kth ktt th_k tt_k th_t tt_t : Int32) (hs : Int64), JM mr n → JH mh h → JP mp pn → n_t ≤ 6 → JK n_k fi_k → KP mkr mkh fk_k fs_k fn_k fi_k fc_k fw_k ft_k n n_k h_k kh sr ks kth ktt th_k tt_k → CN sr ks j → ∀ (H : Heap) (locs : List Loc), va_P D vwCl (LW cI cZ t0 g0 q0 kq0 tq0 w0 q1 q2 q3 q4 q5 q6 q7 kq1 kq2 kq3 kq4 kq5 kq6 kq7 tq1 tq2 tq3 tq4 tq5 tq6 tq7 g1 m0 m1 m2 m3 m4 m5 m6 m7 mr mh mp mt mv mkr mkh fk_k fs_k fn_k fi_k fc_k fw_k ft_k fk_t fs_t fn_t fi_t fc_t fw_t ft_t n h pn n_k h_k n_t h_t sdn kh sx th tt sr tp ks kth ktt th_k tt_k th_t tt_t hs) H → va_D A (LW cI cZ t0 g0 q0 kq0 tq0 w0 q1 q2 q3 q4 q5 q6 q7 kq1 kq2 kq3 kq4 kq5 kq6 kq7 tq1 tq2 tq3 tq4 tq5 tq6 tq7 g1 m0 m1 m2 m3 m4 m5 m6 m7 mr mh mp mt mv mkr mkh fk_k fs_k fn_k fi_k fc_k fw_k ft_k fk_t fs_t fn_t fi_t fc_t fw_t ft_t n h pn n_k h_k n_t h_t sdn kh sx th tt sr tp ks kth ktt th_k tt_k th_t tt_t hs) → va_S A s.heap H locs → ∀ ls : Array Slot, lv_has ls 4 [(0, .ref b), (1, .ref t0), (2, .ref m0), (3, .int (nI k))] → W p l e room_1 s m #[Value.ref b] below meth co H locs 36 378 (lw_Z below #[Value.ref b] s) (F0 m pc ls [])
