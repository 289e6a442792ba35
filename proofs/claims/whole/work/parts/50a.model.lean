set_option maxHeartbeats 1000000 in
set_option maxRecDepth 100000 in
theorem k_X5_in (l : Launch) (dC : Nat → ClassId) (dI : Nat → Nat → Nat) (cI cZ : ClassId) (a : Int64) (lo : Int64) (hi2 : Int64) : Met l yX5_in wsX5_in ({ frames := 0, cells := 0, slots := 0, locals := 0 }) (va_Pc [.long (a), .long (lo), .long (hi2)] (PR (dC, dI) cI cZ [])) (QRi ((if (lo ≤ a ∧ a ≤ hi2) then nI 1 else nI 0))) 0 0 noF := by
  refine Met.ofW (cc := cX5_in) (maxL := 6) (ret := (some .boolean)) (by decide) rfl ?_
  intro p e s m args below meth co s₁ B hml hv
  obtain ⟨rfl, hP, hK⟩ := hv
  have hx := B.exec
  have hb := B.bytes
  have hr := B.returns
  have hts := atoms_spec (ws := wsX5_in) B.pre
  have hown : s.vm.findClass RX5 = some m.cls := findClass_of_methodNamed B.named
  have hlocks := B.notSynchronized
  have hl := lv_entry ([.long (a), .long (lo), .long (hi2)]) (n := 6) (Nat.le_of_ble_eq_true rfl)
  rw [lg_entry_eq]
  generalize (lg_sl ([.long (a), .long (lo), .long (hi2)]) ++ List.replicate (6 - (lg_sl ([.long (a), .long (lo), .long (hi2)])).length) Slot.unset).toArray = ls at hl ⊢
  have hl : lv_has ls 6 [(0, .long (a)), (2, .long (lo)), (4, .long (hi2))] := hl
  refine lv_lload_n hx hb dX5_in_0 rfl (lv_at hl 0 rfl) ?_
  refine lv_lload_n hx hb dX5_in_1 rfl (lv_at hl 1 rfl) ?_
  refine W.lcmp hx hb dX5_in_2 ?_
  refine lv_if_lt (tgt := 17) hx hb dX5_in_3 (by decide) (fun c_1 => ?_) (fun c_1 => ?_)
  · skip
    refine lv_iconst (v := nI 0) hx hb dX5_in_17 (by decide) ?_
    exact retRz hx hb hr hlocks rfl (by first | exact in_a (by with_reducible assumption) | exact in_b (by with_reducible assumption) | exact in_c (by with_reducible assumption) (by with_reducible assumption)) dX5_in_18
  · skip
    refine lv_lload_n hx hb dX5_in_6 rfl (lv_at hl 0 rfl) ?_
    refine lv_lload hx hb dX5_in_7 (lv_at hl 2 rfl) ?_
    refine W.lcmp hx hb dX5_in_9 ?_
    refine lv_if_gt (tgt := 17) hx hb dX5_in_10 (by decide) (fun c_2 => ?_) (fun c_2 => ?_)
    · skip
      refine lv_iconst (v := nI 0) hx hb dX5_in_17 (by decide) ?_
      exact retRz hx hb hr hlocks rfl (by first | exact in_a (by with_reducible assumption) | exact in_b (by with_reducible assumption) | exact in_c (by with_reducible assumption) (by with_reducible assumption)) dX5_in_18
    · skip
      refine lv_iconst (v := nI 1) hx hb dX5_in_13 (by decide) ?_
      refine lv_goto (tgt := 18) hx hb dX5_in_14 (by decide) ?_
      exact retRz hx hb hr hlocks rfl (by first | exact in_a (by with_reducible assumption) | exact in_b (by with_reducible assumption) | exact in_c (by with_reducible assumption) (by with_reducible assumption)) dX5_in_18
set_option maxHeartbeats 1000000 in
set_option maxRecDepth 100000 in
theorem k_X5_copy (l : Launch) (dC : Nat → ClassId) (dI : Nat → Nat → Nat) (cI cZ : ClassId) (u0 u1 : Nat) (sz : Nat) (uf ug : Nat → Int32) : Met l yX5_copy wsX5_copy ({ frames := 0, cells := 0, slots := 0, locals := 0 }) (va_Pc [.ref u0, .ref u1] (PW (dC, dI) cI cZ sz [(u0, .inl (cI, 24, .inl (uf))), (u1, .inl (cI, 24, .inl (ug)))])) (QWv (dC, dI) [(u0, .inl (cI, 24, .inl (uf))), (u1, .inl (cI, 24, .inl (ug)))] [(u0, .inl (cI, 24, .inl (uf))), (u1, .inl (cI, 24, .inl (uf)))] sz) 0 0 (va_A [(u0, .inl (cI, 24, .inl (uf))), (u1, .inl (cI, 24, .inl (ug)))] sz) := by
  refine Met.ofW (cc := cX5_copy) (maxL := 3) (ret := none) (by decide) rfl ?_
  intro p e s m args below meth co s₁ B hml hv
  obtain ⟨rfl, hsz, hP, hK, hD0⟩ := hv
  have hx := B.exec
  have hb := B.bytes
  have hr := B.returns
  have hts := atoms_spec (ws := wsX5_copy) B.pre
  have hown : s.vm.findClass RX5 = some m.cls := findClass_of_methodNamed B.named
  have hlocks := B.notSynchronized
  subst hsz
  have hD := hD0.self (sz := s.heap.size)
  generalize hAe : va_A [(u0, .inl (cI, 24, .inl (uf))), (u1, .inl (cI, 24, .inl (ug)))] s.heap.size = A at hD
  have hA : ∀ q : Nat, s.heap.size ≤ q → A q := fun q h => by rw [← hAe]; exact Or.inr h
  have hS : va_S A s.heap s.heap [] := va_S.rf
  have hl := lv_entry ([.ref u0, .ref u1]) (n := 3) (Nat.le_of_ble_eq_true rfl)
  rw [lg_entry_eq]
  generalize (lg_sl ([.ref u0, .ref u1]) ++ List.replicate (3 - (lg_sl ([.ref u0, .ref u1])).length) Slot.unset).toArray = ls at hl ⊢
  have hl : lv_has ls 3 [(0, .ref u0), (1, .ref u1)] := hl
  have hP : va_P (dC, dI) vwCl [(u0, .inl (cI, 24, .inl (uf))), (u1, .inl (cI, 24, .inl (ug)))] s.heap := hP
  refine lv_iconst (v := nI 0) hx hb dX5_copy_0 (by decide) ?_
  refine lv_istore_n (lv' := [(2, .int (nI 0)), (0, .ref u0), (1, .ref u1)]) hx hb dX5_copy_1 rfl hl (by decide) rfl (fun ls hl => ?_)
  have lp2 : ∀ (fuel : Nat) (k : Nat), 24 - k < fuel → (k ≤ 24) → ∀ (H : Heap) (locs : List Loc), va_P (dC, dI) vwCl [(u0, .inl (cI, 24, .inl (uf))), (u1, .inl (cI, 24, .inl (cpF uf ug k)))] H → va_D A [(u0, .inl (cI, 24, .inl (uf))), (u1, .inl (cI, 24, .inl (cpF uf ug k)))] → va_S A s.heap H locs → ∀ (ls : Array Slot), lv_has ls 3 [(0, .ref u0), (1, .ref u1), (2, .int (nI k))] → W p l e (headSpec wsX5_copy ({ frames := 0, cells := 0, slots := 0, locals := 0 })).room s m ([.ref u0, .ref u1] : List Value).toArray below meth co H locs 0 0 (MQ below (QWv (dC, dI) [(u0, .inl (cI, 24, .inl (uf))), (u1, .inl (cI, 24, .inl (ug)))] [(u0, .inl (cI, 24, .inl (uf))), (u1, .inl (cI, 24, .inl (uf)))] s.heap.size) ([.ref u0, .ref u1] : List Value).toArray s 0 0 A) (F0 m 2 ls []) := by
    intro fuel
    induction fuel with
    | zero => intro k h0; exact absurd h0 (Nat.not_lt_zero _)
    | succ fuel ih2 =>
      intro k hm_1 hk H locs hP hD hS ls hl
      refine lv_iload_n hx hb dX5_copy_2 rfl (lv_at hl 2 rfl) ?_
      refine lv_aload_n hx hb dX5_copy_3 rfl (lv_at hl 0 rfl) ?_
      refine va_alen (v := nI 24) hx hb hK hP 0 0 rfl rfl rfl dX5_copy_4 ?_
      refine w_ci_ge (tgt := 20) hx hb (by omega) (by omega) dX5_copy_5 (by decide) (fun c_2 => ?_) (fun c_2 => ?_)
      · skip
        have hP := w_same (ws := [(u0, .inl (cI, 24, .inl (uf))), (u1, .inl (cI, 24, .inl (cpF uf ug k)))]) (q1 := 1) (a := u1) (c1 := cI) (n := 24) (f := cpF uf ug k) (g := uf) hP (fun j hj => cpF_e j (by omega))
        have hD := w_sameD (ws := [(u0, .inl (cI, 24, .inl (uf))), (u1, .inl (cI, 24, .inl (cpF uf ug k)))]) (q1 := 1) (a := u1) (x := .inl (cI, 24, .inl (cpF uf ug k))) (y := .inl (cI, 24, .inl (uf))) hD
        have hP : va_P (dC, dI) vwCl [(u0, .inl (cI, 24, .inl (uf))), (u1, .inl (cI, 24, .inl (uf)))] H := hP
        have hD : va_D A [(u0, .inl (cI, 24, .inl (uf))), (u1, .inl (cI, 24, .inl (uf)))] := hD
        have hP7 := hP.sub (ws' := [(u0, .inl (cI, 24, .inl (uf))), (u1, .inl (cI, 24, .inl (uf)))]) [0, 1] rfl
        have hD7 := hD.sub (ws' := [(u0, .inl (cI, 24, .inl (uf))), (u1, .inl (cI, 24, .inl (uf)))]) [0, 1] (by decide) rfl
        exact retWv hx hb hr hlocks hP7 hD7 hS hAe dX5_copy_20
      · skip
        refine lv_aload_n hx hb dX5_copy_8 rfl (lv_at hl 1 rfl) ?_
        refine lv_iload_n hx hb dX5_copy_9 rfl (lv_at hl 2 rfl) ?_
        refine lv_aload_n hx hb dX5_copy_10 rfl (lv_at hl 0 rfl) ?_
        refine lv_iload_n hx hb dX5_copy_11 rfl (lv_at hl 2 rfl) ?_
        refine w_iald (k := k) hx hb hK hP 0 0 rfl rfl (by omega) (by decide) dX5_copy_12 ?_
        refine w_iast (k := k) hx hb hK hP hD hS 1 0 rfl rfl (by omega) (by decide) dX5_copy_13 (fun H locs hP hD hS => ?_)
        have hP : va_P (dC, dI) vwCl [(u0, .inl (cI, 24, .inl (uf))), (u1, .inl (cI, 24, .inl (upd (cpF uf ug k) k (uf k))))] H := hP
        have hD : va_D A [(u0, .inl (cI, 24, .inl (uf))), (u1, .inl (cI, 24, .inl (upd (cpF uf ug k) k (uf k))))] := hD
        refine lv_iinc (v := nI (k + 1)) (lv' := [(2, .int (nI (k + 1))), (0, .ref u0), (1, .ref u1)]) hx hb dX5_copy_14 hl (k := 2) rfl w_inc1 (by decide) rfl (fun ls hl => ?_)
        refine lv_goto (tgt := 2) hx hb dX5_copy_17 (by decide) ?_
        have hP7 := hP.sub (ws' := [(u0, .inl (cI, 24, .inl (uf))), (u1, .inl (cI, 24, .inl (upd (cpF uf ug k) k (uf k))))]) [0, 1] rfl
        have hD7 := hD.sub (ws' := [(u0, .inl (cI, 24, .inl (uf))), (u1, .inl (cI, 24, .inl (upd (cpF uf ug k) k (uf k))))]) [0, 1] (by decide) rfl
        have he_3 : (upd (cpF uf ug k) k (uf k) : Nat → Int32) = cpF uf ug (k + 1) := by exact cpF_s
        have heq : ([(u0, .inl (cI, 24, .inl (uf))), (u1, .inl (cI, 24, .inl (upd (cpF uf ug k) k (uf k))))] : va_W) = [(u0, .inl (cI, 24, .inl (uf))), (u1, .inl (cI, 24, .inl (cpF uf ug (k + 1))))] := by rw [← he_3]
        have hP7 := w_Pc hP7 heq
        have hD7 := w_Dc hD7 heq
        exact ih2 (k + 1) (by omega) (by first | omega | with_reducible assumption | (first | with_reducible rfl | exact (if_pos (c_2)).symm | exact (if_neg (c_2)).symm | (simp [hk, c_2]; done) | omega | rfl)) _ _ hP7 hD7 hS ls (lv_sub hl [1, 2, 0] rfl)
  have hP7 := hP.sub (ws' := [(u0, .inl (cI, 24, .inl (uf))), (u1, .inl (cI, 24, .inl (ug)))]) [0, 1] rfl
  have hD7 := hD.sub (ws' := [(u0, .inl (cI, 24, .inl (uf))), (u1, .inl (cI, 24, .inl (ug)))]) [0, 1] (by decide) rfl
  have he_4 : (ug : Nat → Int32) = cpF uf ug 0 := by exact cpF_0
  have heq : ([(u0, .inl (cI, 24, .inl (uf))), (u1, .inl (cI, 24, .inl (ug)))] : va_W) = [(u0, .inl (cI, 24, .inl (uf))), (u1, .inl (cI, 24, .inl (cpF uf ug 0)))] := by rw [← he_4]
  have hP7 := w_Pc hP7 heq
  have hD7 := w_Dc hD7 heq
  exact lp2 (24 - 0 + 1) (0) (Nat.lt_succ_self _) (by first | omega | with_reducible assumption | (first | with_reducible rfl | exact (if_pos (trivial)).symm | exact (if_neg (trivial)).symm | (simp []; done) | omega | rfl)) _ _ hP7 hD7 hS ls (lv_sub hl [1, 2, 0] rfl)
set_option maxHeartbeats 1000000 in
set_option maxRecDepth 100000 in
theorem k_X5_isRule (l : Launch) (dC : Nat → ClassId) (dI : Nat → Nat → Nat) (cI cZ : ClassId) (r : Int32) : Met l yX5_isRule wsX5_isRule ({ frames := 1, cells := 0, slots := 0, locals := 25 }) (va_Pc [.int (r)] (PR (dC, dI) cI cZ [])) (QRi ((if (inR 12 r) then nI 1 else nI 0))) 0 0 noF := by
  refine Met.ofW (cc := cX5_isRule) (maxL := 1) (ret := (some .boolean)) (by decide) rfl ?_
  intro p e s m args below meth co s₁ B hml hv
  obtain ⟨rfl, hP, hK⟩ := hv
  have hx := B.exec
  have hb := B.bytes
  have hr := B.returns
  have hts := atoms_spec (ws := wsX5_isRule) B.pre
  have hown : s.vm.findClass RX5 = some m.cls := findClass_of_methodNamed B.named
  have hlocks := B.notSynchronized
  have lc75 := hts (.constantLong RX5 75 (11)) (by decide +kernel)
  have hl := lv_entry ([.int (r)]) (n := 1) (Nat.le_of_ble_eq_true rfl)
  rw [lg_entry_eq]
  generalize (lg_sl ([.int (r)]) ++ List.replicate (1 - (lg_sl ([.int (r)])).length) Slot.unset).toArray = ls at hl ⊢
  have hl : lv_has ls 1 [(0, .int (r))] := hl
  refine lv_iload_n hx hb dX5_isRule_0 rfl (lv_at hl 0 rfl) ?_
  refine lv_i2l (v := Int32.toInt64 (r)) hx hb dX5_isRule_1 rfl ?_
  refine lv_lconst (v := 0) hx hb dX5_isRule_2 (by decide) ?_
  refine lv_ldc2 (v := 11) hx hb hown lc75 dX5_isRule_3 ?_
  have hPc := hP.sub (ws' := []) [] rfl
  refine callRi (v := (if ((0 : Int64) ≤ (Int32.toInt64 (r)) ∧ (Int32.toInt64 (r)) ≤ (11 : Int64)) then nI 1 else nI 0)) (W.runS (As := [.long ((Int32.toInt64 (r))), .long ((0 : Int64)), .long ((11 : Int64))]) (rest := []) ⟨hx, hb, hml, hown, hts⟩ (k_X5_in l dC dI cI cZ ((Int32.toInt64 (r))) ((0 : Int64)) ((11 : Int64))) (va_cwS 3 hts gX5_isRule_X5_in rfl rfl rfl (by decide +kernel) ⟨Nat.le_of_ble_eq_true rfl, Nat.le_of_ble_eq_true rfl⟩) (preRS hK hPc) rfl rfl hl.1 rfl (lv_room (Nat.le_of_ble_eq_true rfl)) dX5_isRule_6 ⟨Nat.zero_le _, Nat.zero_le _⟩) ?_
  rw [show ((if ((0 : Int64) ≤ (Int32.toInt64 (r)) ∧ (Int32.toInt64 (r)) ≤ (11 : Int64)) then nI 1 else nI 0) : Int32) = (if (inR 12 r) then nI 1 else nI 0) from ite_c (in64 (n := 12) rfl rfl)]
  exact retRz hx hb hr hlocks w_nb rfl dX5_isRule_9
set_option maxHeartbeats 1000000 in
set_option maxRecDepth 100000 in
theorem k_X5_isChild (l : Launch) (dC : Nat → ClassId) (dI : Nat → Nat → Nat) (cI cZ : ClassId) (m0 m1 m2 m3 m4 m5 m6 m7 : Nat) (mp mr mh mt mv mkr mkh : Nat → Int32) (pn n h sdn kh : Nat) (th tt sr tp ks kth ktt : Int32) (hs : Int64) (c : Int32) (hn6 : n ≤ 6) : Met l yX5_isChild wsX5_isChild ({ frames := 1, cells := 0, slots := 0, locals := 25 }) (va_Pc [.ref m0, .int (c)] (PR (dC, dI) cI cZ [(m0, .inr (4, [.ref m1, .int (nI pn), .int (nI n), .int (th), .int (tt), .int (sr), .ref m2, .int (tp), .int (nI h), .ref m3, .ref m4, .int (nI sdn), .ref m5, .int (ks), .int (kth), .int (ktt), .int (nI kh), .ref m6, .ref m7, .long (hs)])), (m1, .inl (cI, 20, .inl (mp))), (m2, .inl (cI, 24, .inl (mr))), (m3, .inl (cI, 24, .inl (mh))), (m4, .inl (cI, 12, .inl (mt))), (m5, .inl (cI, 24, .inl (mv))), (m6, .inl (cI, 24, .inl (mkr))), (m7, .inl (cI, 24, .inl (mkh)))])) (QRi ((if (inR n c) then nI 1 else nI 0))) 0 0 noF := by
  refine Met.ofW (cc := cX5_isChild) (maxL := 2) (ret := (some .boolean)) (by decide) rfl ?_
  intro p e s m args below meth co s₁ B hml hv
  obtain ⟨rfl, hP, hK⟩ := hv
  have hx := B.exec
  have hb := B.bytes
  have hr := B.returns
  have hts := atoms_spec (ws := wsX5_isChild) B.pre
  have hown : s.vm.findClass RX5 = some m.cls := findClass_of_methodNamed B.named
  have hlocks := B.notSynchronized
  have inX5 : ∀ w ∈ u_ws RX5 TX5 20, w ∈ wsX5_isChild := by decide +kernel
  have lf60 := hts (.fieldLink RX5 60 "ThursdayRungsModel" "children" "I") (by decide +kernel)
  have hl := lv_entry ([.ref m0, .int (c)]) (n := 2) (Nat.le_of_ble_eq_true rfl)
  rw [lg_entry_eq]
  generalize (lg_sl ([.ref m0, .int (c)]) ++ List.replicate (2 - (lg_sl ([.ref m0, .int (c)])).length) Slot.unset).toArray = ls at hl ⊢
  have hl : lv_has ls 2 [(0, .ref m0), (1, .int (c))] := hl
  refine lv_iload_n hx hb dX5_isChild_0 rfl (lv_at hl 1 rfl) ?_
  refine lv_i2l (v := Int32.toInt64 (c)) hx hb dX5_isChild_1 rfl ?_
  refine lv_lconst (v := 0) hx hb dX5_isChild_2 (by decide) ?_
  refine lv_aload_n hx hb dX5_isChild_3 rfl (lv_at hl 0 rfl) ?_
  refine va_get (D := (dC, dI)) (ci := 4) (v := .int (nI n)) (C := RX5) (T := TX5) (N := 20) hx hb hts inX5 hown hK hP 0 rfl rfl 2 (by decide) lf60 (fun _ h9 => h9) rfl dX5_isChild_4 ?_
  refine lv_iconst (v := nI 1) hx hb dX5_isChild_7 (by decide) ?_
  refine lv_isub hx hb dX5_isChild_8 ?_
  refine lv_i2l (v := Int32.toInt64 ((nI n) - (nI 1))) hx hb dX5_isChild_9 rfl ?_
  have hPc := hP.sub (ws' := []) [] rfl
  refine callRi (v := (if ((0 : Int64) ≤ (Int32.toInt64 (c)) ∧ (Int32.toInt64 (c)) ≤ (Int32.toInt64 ((nI n) - (nI 1)))) then nI 1 else nI 0)) (W.runS (As := [.long ((Int32.toInt64 (c))), .long ((0 : Int64)), .long ((Int32.toInt64 ((nI n) - (nI 1))))]) (rest := []) ⟨hx, hb, hml, hown, hts⟩ (k_X5_in l dC dI cI cZ ((Int32.toInt64 (c))) ((0 : Int64)) ((Int32.toInt64 ((nI n) - (nI 1))))) (va_cwS 3 hts gX5_isChild_X5_in rfl rfl rfl (by decide +kernel) ⟨Nat.le_of_ble_eq_true rfl, Nat.le_of_ble_eq_true rfl⟩) (preRS hK hPc) rfl rfl hl.1 rfl (lv_room (Nat.le_of_ble_eq_true rfl)) dX5_isChild_10 ⟨Nat.zero_le _, Nat.zero_le _⟩) ?_
  rw [show ((if ((0 : Int64) ≤ (Int32.toInt64 (c)) ∧ (Int32.toInt64 (c)) ≤ (Int32.toInt64 ((nI n) - (nI 1)))) then nI 1 else nI 0) : Int32) = (if (inR n c) then nI 1 else nI 0) from ite_c (in64 (n := n) rfl (ch_top hn6))]
  exact retRz hx hb hr hlocks w_nb rfl dX5_isChild_13
set_option maxHeartbeats 1000000 in
set_option maxRecDepth 100000 in
theorem k_X5_lacks (l : Launch) (dC : Nat → ClassId) (dI : Nat → Nat → Nat) (cI cZ : ClassId) (m0 m1 m2 m3 m4 m5 m6 m7 : Nat) (mp mr mh mt mv mkr mkh : Nat → Int32) (pn n h sdn kh : Nat) (th tt sr tp ks kth ktt : Int32) (hs : Int64) (hn6 : n ≤ 6) : Met l yX5_lacks wsX5_lacks ({ frames := 0, cells := 0, slots := 0, locals := 0 }) (va_Pc [.ref m0] (PR (dC, dI) cI cZ [(m0, .inr (4, [.ref m1, .int (nI pn), .int (nI n), .int (th), .int (tt), .int (sr), .ref m2, .int (tp), .int (nI h), .ref m3, .ref m4, .int (nI sdn), .ref m5, .int (ks), .int (kth), .int (ktt), .int (nI kh), .ref m6, .ref m7, .long (hs)])), (m1, .inl (cI, 20, .inl (mp))), (m2, .inl (cI, 24, .inl (mr))), (m3, .inl (cI, 24, .inl (mh))), (m4, .inl (cI, 12, .inl (mt))), (m5, .inl (cI, 24, .inl (mv))), (m6, .inl (cI, 24, .inl (mkr))), (m7, .inl (cI, 24, .inl (mkh)))])) (QRi ((if (n = 0) then nI 1 else nI 0))) 0 0 noF := by
  refine Met.ofW (cc := cX5_lacks) (maxL := 1) (ret := (some .boolean)) (by decide) rfl ?_
  intro p e s m args below meth co s₁ B hml hv
  obtain ⟨rfl, hP, hK⟩ := hv
  have hx := B.exec
  have hb := B.bytes
  have hr := B.returns
  have hts := atoms_spec (ws := wsX5_lacks) B.pre
  have hown : s.vm.findClass RX5 = some m.cls := findClass_of_methodNamed B.named
  have hlocks := B.notSynchronized
  have inX5 : ∀ w ∈ u_ws RX5 TX5 20, w ∈ wsX5_lacks := by decide +kernel
  have lf60 := hts (.fieldLink RX5 60 "ThursdayRungsModel" "children" "I") (by decide +kernel)
  have hl := lv_entry ([.ref m0]) (n := 1) (Nat.le_of_ble_eq_true rfl)
  rw [lg_entry_eq]
  generalize (lg_sl ([.ref m0]) ++ List.replicate (1 - (lg_sl ([.ref m0])).length) Slot.unset).toArray = ls at hl ⊢
  have hl : lv_has ls 1 [(0, .ref m0)] := hl
  refine lv_aload_n hx hb dX5_lacks_0 rfl (lv_at hl 0 rfl) ?_
  refine va_get (D := (dC, dI)) (ci := 4) (v := .int (nI n)) (C := RX5) (T := TX5) (N := 20) hx hb hts inX5 hown hK hP 0 rfl rfl 2 (by decide) lf60 (fun _ h9 => h9) rfl dX5_lacks_1 ?_
  refine w_ifneN (tgt := 11) hx hb (by omega) dX5_lacks_4 (by decide) (fun c_1 => ?_) (fun c_1 => ?_)
  · skip
    refine lv_iconst (v := nI 0) hx hb dX5_lacks_11 (by decide) ?_
    exact retRz hx hb hr hlocks rfl (by first | exact w_ite1 c_1 | exact w_ite0 c_1) dX5_lacks_12
  · skip
    refine lv_iconst (v := nI 1) hx hb dX5_lacks_7 (by decide) ?_
    refine lv_goto (tgt := 12) hx hb dX5_lacks_8 (by decide) ?_
    exact retRz hx hb hr hlocks rfl (by first | exact w_ite1 c_1 | exact w_ite0 c_1) dX5_lacks_12
set_option maxHeartbeats 1000000 in
set_option maxRecDepth 100000 in
theorem k_X5_teachesBy (l : Launch) (dC : Nat → ClassId) (dI : Nat → Nat → Nat) (cI cZ : ClassId) (k : Int32) (sl : Int32) (r : Int32) (hsl : ∃ s, s < 10 ∧ sl = nI s) (hr2 : ∃ q, q < 12 ∧ r = nI q) : Met l yX5_teachesBy wsX5_teachesBy ({ frames := 0, cells := 0, slots := 0, locals := 0 }) (va_Pc [.int (k), .int (sl), .int (r)] (PR (dC, dI) cI cZ [])) (QRi ((tb k sl r))) 0 0 noF := by
  refine Met.ofW (cc := cX5_teachesBy) (maxL := 4) (ret := (some .int)) (by decide) rfl ?_
  intro p e s m args below meth co s₁ B hml hv
  obtain ⟨rfl, hP, hK⟩ := hv
  have hx := B.exec
  have hb := B.bytes
  have hr := B.returns
  have hts := atoms_spec (ws := wsX5_teachesBy) B.pre
  have hown : s.vm.findClass RX5 = some m.cls := findClass_of_methodNamed B.named
  have hlocks := B.notSynchronized
  have hl := lv_entry ([.int (k), .int (sl), .int (r)]) (n := 4) (Nat.le_of_ble_eq_true rfl)
  rw [lg_entry_eq]
  generalize (lg_sl ([.int (k), .int (sl), .int (r)]) ++ List.replicate (4 - (lg_sl ([.int (k), .int (sl), .int (r)])).length) Slot.unset).toArray = ls at hl ⊢
  have hl : lv_has ls 4 [(0, .int (k)), (1, .int (sl)), (2, .int (r))] := hl
  refine lv_iload_n hx hb dX5_teachesBy_0 rfl (lv_at hl 2 rfl) ?_
  refine lv_iload_n hx hb dX5_teachesBy_1 rfl (lv_at hl 1 rfl) ?_
  refine lv_iadd hx hb dX5_teachesBy_2 ?_
  refine lv_istore_n (lv' := [(3, .int ((r) + (sl))), (0, .int (k)), (1, .int (sl)), (2, .int (r))]) hx hb dX5_teachesBy_3 rfl hl (by decide) rfl (fun ls hl => ?_)
  refine lv_iload_n hx hb dX5_teachesBy_4 rfl (lv_at hl 1 rfl) ?_
  refine lv_iconst (v := nI 1) hx hb dX5_teachesBy_5 (by decide) ?_
  refine lv_icmp_ne (tgt := 11) hx hb dX5_teachesBy_6 (by decide) (fun c_1 => ?_) (fun c_1 => ?_)
  · skip
    refine lv_iload_n hx hb dX5_teachesBy_11 rfl (lv_at hl 1 rfl) ?_
    refine lv_iconst (v := nI 2) hx hb dX5_teachesBy_12 (by decide) ?_
    refine lv_icmp_ne (tgt := 23) hx hb dX5_teachesBy_13 (by decide) (fun c_2 => ?_) (fun c_2 => ?_)
    · skip
      refine lv_iload_n hx hb dX5_teachesBy_23 rfl (lv_at hl 1 rfl) ?_
      refine lv_iconst (v := nI 3) hx hb dX5_teachesBy_24 (by decide) ?_
      refine lv_icmp_ne (tgt := 36) hx hb dX5_teachesBy_25 (by decide) (fun c_3 => ?_) (fun c_3 => ?_)
      · skip
        refine lv_iload_n hx hb dX5_teachesBy_36 rfl (lv_at hl 1 rfl) ?_
        refine lv_iconst (v := nI 4) hx hb dX5_teachesBy_37 (by decide) ?_
        refine lv_icmp_ne (tgt := 45) hx hb dX5_teachesBy_38 (by decide) (fun c_4 => ?_) (fun c_4 => ?_)
        · skip
          refine lv_iload_n hx hb dX5_teachesBy_45 rfl (lv_at hl 0 rfl) ?_
          refine lv_bipush (v := nI 12) hx hb dX5_teachesBy_46 (by decide) ?_
          refine w_rem hx hb (by decide) dX5_teachesBy_48 ?_
          exact retRi hx hb hr hlocks (by first | with_reducible exact tbM1 hr2 | with_reducible exact tbM2 | with_reducible exact tbM3 | with_reducible exact tbM4 | exact tbM5 (by with_reducible assumption) (by with_reducible assumption) (by with_reducible assumption) (by with_reducible assumption)) dX5_teachesBy_49
        · skip
          subst c_4
          refine lv_iconst (v := nI 2) hx hb dX5_teachesBy_41 (by decide) ?_
          refine lv_iload_n hx hb dX5_teachesBy_42 rfl (lv_at hl 3 rfl) ?_
          refine lv_imul hx hb dX5_teachesBy_43 ?_
          refine lv_istore_n (lv' := [(3, .int ((nI 2) * (r))), (0, .int (nI 4)), (1, .int (sl)), (2, .int (r))]) hx hb dX5_teachesBy_44 rfl hl (by decide) rfl (fun ls hl => ?_)
          refine lv_iload_n hx hb dX5_teachesBy_45 rfl (lv_at hl 0 rfl) ?_
          refine lv_bipush (v := nI 12) hx hb dX5_teachesBy_46 (by decide) ?_
          refine w_rem hx hb (by decide) dX5_teachesBy_48 ?_
          exact retRi hx hb hr hlocks (by first | with_reducible exact tbM1 hr2 | with_reducible exact tbM2 | with_reducible exact tbM3 | with_reducible exact tbM4 | exact tbM5 (by with_reducible assumption) (by with_reducible assumption) (by with_reducible assumption) (by with_reducible assumption)) dX5_teachesBy_49
      · skip
        subst c_3
        refine lv_iload_n hx hb dX5_teachesBy_28 rfl (lv_at hl 3 rfl) ?_
        refine lv_iload_n hx hb dX5_teachesBy_29 rfl (lv_at hl 3 rfl) ?_
        refine lv_iconst (v := nI 2) hx hb dX5_teachesBy_30 (by decide) ?_
        refine w_rem hx hb (by decide) dX5_teachesBy_31 ?_
        refine lv_isub hx hb dX5_teachesBy_32 ?_
        refine lv_iload_n hx hb dX5_teachesBy_33 rfl (lv_at hl 2 rfl) ?_
        refine lv_iadd hx hb dX5_teachesBy_34 ?_
        refine lv_istore_n (lv' := [(3, .int (((r) - (rm (r) (nI 2))) + (sl))), (0, .int (nI 3)), (1, .int (sl)), (2, .int (r))]) hx hb dX5_teachesBy_35 rfl hl (by decide) rfl (fun ls hl => ?_)
        refine lv_iload_n hx hb dX5_teachesBy_36 rfl (lv_at hl 1 rfl) ?_
        refine lv_iconst (v := nI 4) hx hb dX5_teachesBy_37 (by decide) ?_
        refine w_ci_ne (tgt := 45) hx hb (by omega) (by omega) dX5_teachesBy_38 (by decide) (fun c_5 => ?_) (fun c_5 => ?_)
        · skip
          refine lv_iload_n hx hb dX5_teachesBy_45 rfl (lv_at hl 0 rfl) ?_
          refine lv_bipush (v := nI 12) hx hb dX5_teachesBy_46 (by decide) ?_
          refine w_rem hx hb (by decide) dX5_teachesBy_48 ?_
          exact retRi hx hb hr hlocks (by first | with_reducible exact tbM1 hr2 | with_reducible exact tbM2 | with_reducible exact tbM3 | with_reducible exact tbM4 | exact tbM5 (by with_reducible assumption) (by with_reducible assumption) (by with_reducible assumption) (by with_reducible assumption)) dX5_teachesBy_49
        · skip
          first | exact absurd c_5 (by decide) | exact (c_5 : False).elim | omega
    · skip
      subst c_2
      refine lv_iload_n hx hb dX5_teachesBy_16 rfl (lv_at hl 2 rfl) ?_
      refine lv_iload_n hx hb dX5_teachesBy_17 rfl (lv_at hl 3 rfl) ?_
      refine lv_isub hx hb dX5_teachesBy_18 ?_
      refine lv_bipush (v := nI 12) hx hb dX5_teachesBy_19 (by decide) ?_
      refine lv_iadd hx hb dX5_teachesBy_21 ?_
      refine lv_istore_n (lv' := [(3, .int (((sl) - (r)) + (nI 12))), (0, .int (nI 2)), (1, .int (sl)), (2, .int (r))]) hx hb dX5_teachesBy_22 rfl hl (by decide) rfl (fun ls hl => ?_)
      refine lv_iload_n hx hb dX5_teachesBy_23 rfl (lv_at hl 1 rfl) ?_
      refine lv_iconst (v := nI 3) hx hb dX5_teachesBy_24 (by decide) ?_
      refine w_ci_ne (tgt := 36) hx hb (by omega) (by omega) dX5_teachesBy_25 (by decide) (fun c_6 => ?_) (fun c_6 => ?_)
      · skip
        refine lv_iload_n hx hb dX5_teachesBy_36 rfl (lv_at hl 1 rfl) ?_
        refine lv_iconst (v := nI 4) hx hb dX5_teachesBy_37 (by decide) ?_
        refine w_ci_ne (tgt := 45) hx hb (by omega) (by omega) dX5_teachesBy_38 (by decide) (fun c_7 => ?_) (fun c_7 => ?_)
        · skip
          refine lv_iload_n hx hb dX5_teachesBy_45 rfl (lv_at hl 0 rfl) ?_
          refine lv_bipush (v := nI 12) hx hb dX5_teachesBy_46 (by decide) ?_
          refine w_rem hx hb (by decide) dX5_teachesBy_48 ?_
          exact retRi hx hb hr hlocks (by first | with_reducible exact tbM1 hr2 | with_reducible exact tbM2 | with_reducible exact tbM3 | with_reducible exact tbM4 | exact tbM5 (by with_reducible assumption) (by with_reducible assumption) (by with_reducible assumption) (by with_reducible assumption)) dX5_teachesBy_49
        · skip
          first | exact absurd c_7 (by decide) | exact (c_7 : False).elim | omega
      · skip
        first | exact absurd c_6 (by decide) | exact (c_6 : False).elim | omega
  · skip
    subst c_1
    refine lv_iload_n hx hb dX5_teachesBy_9 rfl (lv_at hl 3 rfl) ?_
    refine lv_istore_n (lv' := [(3, .int (r)), (0, .int (nI 1)), (1, .int (sl)), (2, .int (r))]) hx hb dX5_teachesBy_10 rfl hl (by decide) rfl (fun ls hl => ?_)
    refine lv_iload_n hx hb dX5_teachesBy_11 rfl (lv_at hl 1 rfl) ?_
    refine lv_iconst (v := nI 2) hx hb dX5_teachesBy_12 (by decide) ?_
    refine w_ci_ne (tgt := 23) hx hb (by omega) (by omega) dX5_teachesBy_13 (by decide) (fun c_8 => ?_) (fun c_8 => ?_)
    · skip
      refine lv_iload_n hx hb dX5_teachesBy_23 rfl (lv_at hl 1 rfl) ?_
      refine lv_iconst (v := nI 3) hx hb dX5_teachesBy_24 (by decide) ?_
      refine w_ci_ne (tgt := 36) hx hb (by omega) (by omega) dX5_teachesBy_25 (by decide) (fun c_9 => ?_) (fun c_9 => ?_)
      · skip
        refine lv_iload_n hx hb dX5_teachesBy_36 rfl (lv_at hl 1 rfl) ?_
        refine lv_iconst (v := nI 4) hx hb dX5_teachesBy_37 (by decide) ?_
        refine w_ci_ne (tgt := 45) hx hb (by omega) (by omega) dX5_teachesBy_38 (by decide) (fun c_10 => ?_) (fun c_10 => ?_)
        · skip
          refine lv_iload_n hx hb dX5_teachesBy_45 rfl (lv_at hl 0 rfl) ?_
          refine lv_bipush (v := nI 12) hx hb dX5_teachesBy_46 (by decide) ?_
          refine w_rem hx hb (by decide) dX5_teachesBy_48 ?_
          exact retRi hx hb hr hlocks (by first | with_reducible exact tbM1 hr2 | with_reducible exact tbM2 | with_reducible exact tbM3 | with_reducible exact tbM4 | exact tbM5 (by with_reducible assumption) (by with_reducible assumption) (by with_reducible assumption) (by with_reducible assumption)) dX5_teachesBy_49
        · skip
          first | exact absurd c_10 (by decide) | exact (c_10 : False).elim | omega
      · skip
        first | exact absurd c_9 (by decide) | exact (c_9 : False).elim | omega
    · skip
      first | exact absurd c_8 (by decide) | exact (c_8 : False).elim | omega
