set_option maxHeartbeats 4000000 in
set_option maxRecDepth 100000 in
theorem k_X2_isFull (l : Launch) (dC : Nat → ClassId) (dI : Nat → Nat → Nat) (cI cZ : ClassId) (g0 g1 : Nat) (pg : Nat → Int32) (pn : Nat) (hp : pn ≤ 20) : Met l yX2_isFull wsX2_isFull ({ frames := 0, cells := 0, slots := 0, locals := 0 }) (va_Pc [.ref g0] (PR (dC, dI) cI cZ [(g0, .inr (1, [.ref g1, .int (nI pn)])), (g1, .inl (cI, 20, .inl (pg)))])) (QRi ((if (20 ≤ pn) then nI 1 else nI 0))) 0 0 noF := by
  refine Met.ofW (cc := cX2_isFull) (maxL := 1) (ret := (some .boolean)) (by decide) rfl ?_
  intro p e s m args below meth co s₁ B hml hv
  obtain ⟨rfl, hP, hK⟩ := hv
  have hx := B.exec
  have hb := B.bytes
  have hr := B.returns
  have hts := atoms_spec (ws := wsX2_isFull) B.pre
  have hown : s.vm.findClass RX2 = some m.cls := findClass_of_methodNamed B.named
  have hlocks := B.notSynchronized
  have inX2 : ∀ w ∈ u_ws RX2 TX2 2, w ∈ wsX2_isFull := by decide +kernel
  have lf13 := hts (.fieldLink RX2 13 "ThursdayRungs$Page" "size" "I") (by decide +kernel)
  have hl := lv_entry ([.ref g0]) (n := 1) (Nat.le_of_ble_eq_true rfl)
  rw [lg_entry_eq]
  generalize (lg_sl ([.ref g0]) ++ List.replicate (1 - (lg_sl ([.ref g0])).length) Slot.unset).toArray = ls at hl ⊢
  have hl : lv_has ls 1 [(0, .ref g0)] := hl
  refine lv_aload_n hx hb dX2_isFull_0 rfl (lv_at hl 0 rfl) ?_
  refine va_get (D := (dC, dI)) (ci := 1) (v := .int (nI pn)) (C := RX2) (T := TX2) (N := 2) hx hb hts inX2 hown hK hP 0 rfl rfl 1 (by decide) lf13 (fun _ h9 => h9) rfl dX2_isFull_1 ?_
  refine lv_bipush (v := nI 20) hx hb dX2_isFull_4 (by decide) ?_
  refine w_ci_lt (tgt := 13) hx hb (by omega) (by omega) dX2_isFull_6 (by decide) (fun c_1 => ?_) (fun c_1 => ?_)
  · skip
    refine lv_iconst (v := nI 0) hx hb dX2_isFull_13 (by decide) ?_
    exact retRz hx hb hr hlocks rfl (by first | exact w_ite1 (by omega) | exact w_ite0 (by omega)) dX2_isFull_14
  · skip
    refine lv_iconst (v := nI 1) hx hb dX2_isFull_9 (by decide) ?_
    refine lv_goto (tgt := 14) hx hb dX2_isFull_10 (by decide) ?_
    exact retRz hx hb hr hlocks rfl (by first | exact w_ite1 (by omega) | exact w_ite0 (by omega)) dX2_isFull_14
set_option maxHeartbeats 4000000 in
set_option maxRecDepth 100000 in
theorem k_X2_add (l : Launch) (dC : Nat → ClassId) (dI : Nat → Nat → Nat) (cI cZ : ClassId) (g0 g1 : Nat) (sz : Nat) (pg : Nat → Int32) (pn : Nat) (cd : Int32) (hp : pn < 20) : Met l yX2_add wsX2_add ({ frames := 1, cells := 0, slots := 0, locals := 20 }) (va_Pc [.ref g0, .int (cd)] (PW (dC, dI) cI cZ sz [(g0, .inr (1, [.ref g1, .int (nI pn)])), (g1, .inl (cI, 20, .inl (pg)))])) (QWv (dC, dI) [(g0, .inr (1, [.ref g1, .int (nI pn)])), (g1, .inl (cI, 20, .inl (pg)))] [(g0, .inr (1, [.ref g1, .int (nI ((pn + 1)))])), (g1, .inl (cI, 20, .inl ((upd pg pn cd))))] sz) 0 0 (va_A [(g0, .inr (1, [.ref g1, .int (nI pn)])), (g1, .inl (cI, 20, .inl (pg)))] sz) := by
  refine Met.ofW (cc := cX2_add) (maxL := 2) (ret := none) (by decide) rfl ?_
  intro p e s m args below meth co s₁ B hml hv
  obtain ⟨rfl, hsz, hP, hK, hD0⟩ := hv
  have hx := B.exec
  have hb := B.bytes
  have hr := B.returns
  have hts := atoms_spec (ws := wsX2_add) B.pre
  have hown : s.vm.findClass RX2 = some m.cls := findClass_of_methodNamed B.named
  have hlocks := B.notSynchronized
  subst hsz
  have hD := hD0.self (sz := s.heap.size)
  generalize hAe : va_A [(g0, .inr (1, [.ref g1, .int (nI pn)])), (g1, .inl (cI, 20, .inl (pg)))] s.heap.size = A at hD
  have hA : ∀ q : Nat, s.heap.size ≤ q → A q := fun q h => by rw [← hAe]; exact Or.inr h
  have hS : va_S A s.heap s.heap [] := va_S.rf
  have inX2 : ∀ w ∈ u_ws RX2 TX2 2, w ∈ wsX2_add := by decide +kernel
  have lf13 := hts (.fieldLink RX2 13 "ThursdayRungs$Page" "size" "I") (by decide +kernel)
  have lf9 := hts (.fieldLink RX2 9 "ThursdayRungs$Page" "codes" "[I") (by decide +kernel)
  have hl := lv_entry ([.ref g0, .int (cd)]) (n := 2) (Nat.le_of_ble_eq_true rfl)
  rw [lg_entry_eq]
  generalize (lg_sl ([.ref g0, .int (cd)]) ++ List.replicate (2 - (lg_sl ([.ref g0, .int (cd)])).length) Slot.unset).toArray = ls at hl ⊢
  have hl : lv_has ls 2 [(0, .ref g0), (1, .int (cd))] := hl
  have hP : va_P (dC, dI) vwCl [(g0, .inr (1, [.ref g1, .int (nI pn)])), (g1, .inl (cI, 20, .inl (pg)))] s.heap := hP
  refine lv_aload_n hx hb dX2_add_0 rfl (lv_at hl 0 rfl) ?_
  have hPc := hP.sub (ws' := [(g0, .inr (1, [.ref g1, .int (nI pn)])), (g1, .inl (cI, 20, .inl (pg)))]) [0, 1] rfl
  refine callRi (v := (if (20 ≤ pn) then nI 1 else nI 0)) (W.runV (As := []) (rest := []) ⟨hx, hb, hml, hown, hts⟩ (k_X2_isFull l dC dI cI cZ g0 g1 (pg) (pn) (by first | omega | with_reducible assumption | (simp; omega))) (cwV 0 hts gX2_add_X2_isFull rfl rfl rfl (by decide +kernel) ⟨Nat.le_of_ble_eq_true rfl, Nat.le_of_ble_eq_true rfl⟩) (preRV (q := (RX2, TX2, 2)) (ci := 1) hK hPc rfl rfl) rfl rfl hl.1 rfl (lv_room (Nat.le_of_ble_eq_true rfl)) dX2_add_1 ⟨Nat.zero_le _, Nat.zero_le _⟩) ?_
  refine w_ifneB (tgt := 27) hx hb dX2_add_4 (by decide) (fun c_1 => ?_) (fun c_1 => ?_)
  · skip
    omega
  · skip
    refine lv_aload_n hx hb dX2_add_7 rfl (lv_at hl 0 rfl) ?_
    refine va_get (D := (dC, dI)) (ci := 1) (v := .ref g1) (C := RX2) (T := TX2) (N := 2) hx hb hts inX2 hown hK hP 0 rfl rfl 0 (by decide) lf9 (fun _ h9 => h9) rfl dX2_add_8 ?_
    refine lv_aload_n hx hb dX2_add_11 rfl (lv_at hl 0 rfl) ?_
    refine va_get (D := (dC, dI)) (ci := 1) (v := .int (nI pn)) (C := RX2) (T := TX2) (N := 2) hx hb hts inX2 hown hK hP 0 rfl rfl 1 (by decide) lf13 (fun _ h9 => h9) rfl dX2_add_12 ?_
    refine lv_iload_n hx hb dX2_add_15 rfl (lv_at hl 1 rfl) ?_
    refine w_iast (k := pn) hx hb hK hP hD hS 1 0 rfl rfl (by omega) (by decide) dX2_add_16 (fun H locs hP hD hS => ?_)
    have hP : va_P (dC, dI) vwCl [(g0, .inr (1, [.ref g1, .int (nI pn)])), (g1, .inl (cI, 20, .inl (upd pg pn (cd))))] H := hP
    have hD : va_D A [(g0, .inr (1, [.ref g1, .int (nI pn)])), (g1, .inl (cI, 20, .inl (upd pg pn (cd))))] := hD
    refine lv_aload_n hx hb dX2_add_17 rfl (lv_at hl 0 rfl) ?_
    refine lv_dup hx hb dX2_add_18 rfl ?_
    refine va_get (D := (dC, dI)) (ci := 1) (v := .int (nI pn)) (C := RX2) (T := TX2) (N := 2) hx hb hts inX2 hown hK hP 0 rfl rfl 1 (by decide) lf13 (fun _ h9 => h9) rfl dX2_add_19 ?_
    refine lv_iconst (v := nI 1) hx hb dX2_add_22 (by decide) ?_
    refine w_addN hx hb dX2_add_23 ?_
    refine va_put (D := (dC, dI)) (ci := 1) (v := .int (nI (pn + 1))) (ty := .int) (C := RX2) (T := TX2) (N := 2) hx hb hts inX2 tyX2 tyX2_ok nmX2 hown hK hP hD hS 0 rfl rfl 1 (by decide) lf13 (fun _ h9 => h9) rfl (by decide +kernel) rfl rfl (Nat.le_of_ble_eq_true rfl) dX2_add_24 (fun H locs hP hD hS => ?_)
    have hP : va_P (dC, dI) vwCl [(g0, .inr (1, [.ref g1, .int (nI (pn + 1))])), (g1, .inl (cI, 20, .inl (upd pg pn (cd))))] H := hP
    have hD : va_D A [(g0, .inr (1, [.ref g1, .int (nI (pn + 1))])), (g1, .inl (cI, 20, .inl (upd pg pn (cd))))] := hD
    have hP7 := hP.sub (ws' := [(g0, .inr (1, [.ref g1, .int (nI (pn + 1))])), (g1, .inl (cI, 20, .inl (upd pg pn (cd))))]) [0, 1] rfl
    have hD7 := hD.sub (ws' := [(g0, .inr (1, [.ref g1, .int (nI (pn + 1))])), (g1, .inl (cI, 20, .inl (upd pg pn (cd))))]) [0, 1] (by decide) rfl
    exact retWv hx hb hr hlocks hP7 hD7 hS hAe dX2_add_27
set_option maxHeartbeats 4000000 in
set_option maxRecDepth 100000 in
theorem k_X2_children (l : Launch) (dC : Nat → ClassId) (dI : Nat → Nat → Nat) (cI cZ : ClassId) (g0 g1 : Nat) (pg : Nat → Int32) (pn : Nat) (hp : pn ≤ 20) : Met l yX2_children wsX2_children ({ frames := 0, cells := 0, slots := 0, locals := 0 }) (va_Pc [.ref g0] (PR (dC, dI) cI cZ [(g0, .inr (1, [.ref g1, .int (nI pn)])), (g1, .inl (cI, 20, .inl (pg)))])) (QRi (nI ((pn + 1) / 3))) 0 0 noF := by
  refine Met.ofW (cc := cX2_children) (maxL := 1) (ret := (some .int)) (by decide) rfl ?_
  intro p e s m args below meth co s₁ B hml hv
  obtain ⟨rfl, hP, hK⟩ := hv
  have hx := B.exec
  have hb := B.bytes
  have hr := B.returns
  have hts := atoms_spec (ws := wsX2_children) B.pre
  have hown : s.vm.findClass RX2 = some m.cls := findClass_of_methodNamed B.named
  have hlocks := B.notSynchronized
  have inX2 : ∀ w ∈ u_ws RX2 TX2 2, w ∈ wsX2_children := by decide +kernel
  have lf13 := hts (.fieldLink RX2 13 "ThursdayRungs$Page" "size" "I") (by decide +kernel)
  have hl := lv_entry ([.ref g0]) (n := 1) (Nat.le_of_ble_eq_true rfl)
  rw [lg_entry_eq]
  generalize (lg_sl ([.ref g0]) ++ List.replicate (1 - (lg_sl ([.ref g0])).length) Slot.unset).toArray = ls at hl ⊢
  have hl : lv_has ls 1 [(0, .ref g0)] := hl
  refine lv_aload_n hx hb dX2_children_0 rfl (lv_at hl 0 rfl) ?_
  refine va_get (D := (dC, dI)) (ci := 1) (v := .int (nI pn)) (C := RX2) (T := TX2) (N := 2) hx hb hts inX2 hown hK hP 0 rfl rfl 1 (by decide) lf13 (fun _ h9 => h9) rfl dX2_children_1 ?_
  refine lv_iconst (v := nI 1) hx hb dX2_children_4 (by decide) ?_
  refine w_addN hx hb dX2_children_5 ?_
  refine lv_iconst (v := nI 3) hx hb dX2_children_6 (by decide) ?_
  refine w_divN hx hb (by omega) (by omega) (by omega) dX2_children_7 ?_
  exact retRi hx hb hr hlocks rfl dX2_children_8
set_option maxHeartbeats 4000000 in
set_option maxRecDepth 100000 in
theorem k_X2_slipOf (l : Launch) (dC : Nat → ClassId) (dI : Nat → Nat → Nat) (cI cZ : ClassId) (g0 g1 : Nat) (pg : Nat → Int32) (pn : Nat) (c : Nat) (hc : c < 6) : Met l yX2_slipOf wsX2_slipOf ({ frames := 0, cells := 0, slots := 0, locals := 0 }) (va_Pc [.ref g0, .int (nI c)] (PR (dC, dI) cI cZ [(g0, .inr (1, [.ref g1, .int (nI pn)])), (g1, .inl (cI, 20, .inl (pg)))])) (QRi ((pg (3 * c + 1) - nI 48))) 0 0 noF := by
  refine Met.ofW (cc := cX2_slipOf) (maxL := 2) (ret := (some .int)) (by decide) rfl ?_
  intro p e s m args below meth co s₁ B hml hv
  obtain ⟨rfl, hP, hK⟩ := hv
  have hx := B.exec
  have hb := B.bytes
  have hr := B.returns
  have hts := atoms_spec (ws := wsX2_slipOf) B.pre
  have hown : s.vm.findClass RX2 = some m.cls := findClass_of_methodNamed B.named
  have hlocks := B.notSynchronized
  have inX2 : ∀ w ∈ u_ws RX2 TX2 2, w ∈ wsX2_slipOf := by decide +kernel
  have lf9 := hts (.fieldLink RX2 9 "ThursdayRungs$Page" "codes" "[I") (by decide +kernel)
  have hl := lv_entry ([.ref g0, .int (nI c)]) (n := 2) (Nat.le_of_ble_eq_true rfl)
  rw [lg_entry_eq]
  generalize (lg_sl ([.ref g0, .int (nI c)]) ++ List.replicate (2 - (lg_sl ([.ref g0, .int (nI c)])).length) Slot.unset).toArray = ls at hl ⊢
  have hl : lv_has ls 2 [(0, .ref g0), (1, .int (nI c))] := hl
  refine lv_aload_n hx hb dX2_slipOf_0 rfl (lv_at hl 0 rfl) ?_
  refine va_get (D := (dC, dI)) (ci := 1) (v := .ref g1) (C := RX2) (T := TX2) (N := 2) hx hb hts inX2 hown hK hP 0 rfl rfl 0 (by decide) lf9 (fun _ h9 => h9) rfl dX2_slipOf_1 ?_
  refine lv_iconst (v := nI 3) hx hb dX2_slipOf_4 (by decide) ?_
  refine lv_iload_n hx hb dX2_slipOf_5 rfl (lv_at hl 1 rfl) ?_
  refine w_mulN hx hb dX2_slipOf_6 ?_
  refine lv_iconst (v := nI 1) hx hb dX2_slipOf_7 (by decide) ?_
  refine w_addN hx hb dX2_slipOf_8 ?_
  refine w_iald (k := (3 * c) + 1) hx hb hK hP 1 0 rfl rfl (by omega) (by decide) dX2_slipOf_9 ?_
  refine lv_bipush (v := nI 48) hx hb dX2_slipOf_10 (by decide) ?_
  refine lv_isub hx hb dX2_slipOf_12 ?_
  exact retRi hx hb hr hlocks (by first | with_reducible rfl | exact (if_pos (hc)).symm | exact (if_neg (hc)).symm | (simp [hc]; done) | omega | rfl) dX2_slipOf_13
set_option maxHeartbeats 4000000 in
set_option maxRecDepth 100000 in
theorem k_X4_isRule (l : Launch) (dC : Nat → ClassId) (dI : Nat → Nat → Nat) (cI cZ : ClassId) (r : Int32) : Met l yX4_isRule wsX4_isRule ({ frames := 0, cells := 0, slots := 0, locals := 0 }) (va_Pc [.int (r)] (PR (dC, dI) cI cZ [])) (QRi ((if (inR 12 r) then nI 1 else nI 0))) 0 0 noF := by
  refine Met.ofW (cc := cX4_isRule) (maxL := 1) (ret := (some .boolean)) (by decide) rfl ?_
  intro p e s m args below meth co s₁ B hml hv
  obtain ⟨rfl, hP, hK⟩ := hv
  have hx := B.exec
  have hb := B.bytes
  have hr := B.returns
  have hts := atoms_spec (ws := wsX4_isRule) B.pre
  have hown : s.vm.findClass RX4 = some m.cls := findClass_of_methodNamed B.named
  have hlocks := B.notSynchronized
  have hl := lv_entry ([.int (r)]) (n := 1) (Nat.le_of_ble_eq_true rfl)
  rw [lg_entry_eq]
  generalize (lg_sl ([.int (r)]) ++ List.replicate (1 - (lg_sl ([.int (r)])).length) Slot.unset).toArray = ls at hl ⊢
  have hl : lv_has ls 1 [(0, .int (r))] := hl
  refine lv_iload_n hx hb dX4_isRule_0 rfl (lv_at hl 0 rfl) ?_
  refine lv_if_lt (tgt := 14) hx hb dX4_isRule_1 (by decide) (fun c_1 => ?_) (fun c_1 => ?_)
  · skip
    refine lv_iconst (v := nI 0) hx hb dX4_isRule_14 (by decide) ?_
    exact retRz hx hb hr hlocks rfl (by simp_all [has_iff (c := r) (show 12 < 2 ^ 31 by decide)]) dX4_isRule_15
  · skip
    refine lv_iload_n hx hb dX4_isRule_4 rfl (lv_at hl 0 rfl) ?_
    refine lv_bipush (v := nI 12) hx hb dX4_isRule_5 (by decide) ?_
    refine lv_icmp_ge (tgt := 14) hx hb dX4_isRule_7 (by decide) (fun c_2 => ?_) (fun c_2 => ?_)
    · skip
      refine lv_iconst (v := nI 0) hx hb dX4_isRule_14 (by decide) ?_
      exact retRz hx hb hr hlocks rfl (by simp_all [has_iff (c := r) (show 12 < 2 ^ 31 by decide)]) dX4_isRule_15
    · skip
      refine lv_iconst (v := nI 1) hx hb dX4_isRule_10 (by decide) ?_
      refine lv_goto (tgt := 15) hx hb dX4_isRule_11 (by decide) ?_
      exact retRz hx hb hr hlocks rfl (by simp_all [has_iff (c := r) (show 12 < 2 ^ 31 by decide)]) dX4_isRule_15
set_option maxHeartbeats 4000000 in
set_option maxRecDepth 100000 in
theorem k_X4_refusalOf (l : Launch) (dC : Nat → ClassId) (dI : Nat → Nat → Nat) (cI cZ : ClassId) (t0 g0 q0 kq0 tq0 w0 q1 q2 q3 q4 q5 q6 q7 : Nat) (fk fs fn fi fc fw ft : Nat → Int32) (n h : Nat) (sr th tt : Int32) (c : Int32) (r : Int32) (hn6 : n ≤ 6) : Met l yX4_refusalOf wsX4_refusalOf ({ frames := 1, cells := 0, slots := 0, locals := 21 }) (va_Pc [.ref t0, .int (c), .int (r)] (PR (dC, dI) cI cZ [(t0, .inr (3, [.ref g0, .ref q0, .ref kq0, .ref tq0, .ref w0, .int (sr)])), (q0, .inr (2, [.ref q1, .ref q2, .ref q3, .ref q4, .ref q5, .ref q6, .ref q7, .int (nI n), .int (nI h), .int (th), .int (tt)])), (q1, .inl (cI, 6, .inl (fk))), (q2, .inl (cI, 6, .inl (fs))), (q3, .inl (cI, 6, .inl (fn))), (q4, .inl (cZ, 6, .inl (fi))), (q5, .inl (cI, 8, .inl (fc))), (q6, .inl (cI, 8, .inl (fw))), (q7, .inl (cI, 8, .inl (ft)))])) (QRi ((gd n c r (nI 0)))) 0 0 noF := by
  refine Met.ofW (cc := cX4_refusalOf) (maxL := 3) (ret := (some .int)) (by decide) rfl ?_
  intro p e s m args below meth co s₁ B hml hv
  obtain ⟨rfl, hP, hK⟩ := hv
  have hx := B.exec
  have hb := B.bytes
  have hr := B.returns
  have hts := atoms_spec (ws := wsX4_refusalOf) B.pre
  have hown : s.vm.findClass RX4 = some m.cls := findClass_of_methodNamed B.named
  have hlocks := B.notSynchronized
  have inX4 : ∀ w ∈ u_ws RX4 TX4 6, w ∈ wsX4_refusalOf := by decide +kernel
  have lf19 := hts (.fieldLink RX4 19 "ThursdayRungs" "school" "LThursdayRungs$School;") (by decide +kernel)
  have hl := lv_entry ([.ref t0, .int (c), .int (r)]) (n := 3) (Nat.le_of_ble_eq_true rfl)
  rw [lg_entry_eq]
  generalize (lg_sl ([.ref t0, .int (c), .int (r)]) ++ List.replicate (3 - (lg_sl ([.ref t0, .int (c), .int (r)])).length) Slot.unset).toArray = ls at hl ⊢
  have hl : lv_has ls 3 [(0, .ref t0), (1, .int (c)), (2, .int (r))] := hl
  refine lv_aload_n hx hb dX4_refusalOf_0 rfl (lv_at hl 0 rfl) ?_
  refine va_get (D := (dC, dI)) (ci := 3) (v := .ref q0) (C := RX4) (T := TX4) (N := 6) hx hb hts inX4 hown hK hP 0 rfl rfl 1 (by decide) lf19 (fun _ h9 => h9) rfl dX4_refusalOf_1 ?_
  refine lv_iload_n hx hb dX4_refusalOf_4 rfl (lv_at hl 1 rfl) ?_
  have hPc := hP.sub (ws' := [(q0, .inr (2, [.ref q1, .ref q2, .ref q3, .ref q4, .ref q5, .ref q6, .ref q7, .int (nI n), .int (nI h), .int (th), .int (tt)])), (q1, .inl (cI, 6, .inl (fk))), (q2, .inl (cI, 6, .inl (fs))), (q3, .inl (cI, 6, .inl (fn))), (q4, .inl (cZ, 6, .inl (fi))), (q5, .inl (cI, 8, .inl (fc))), (q6, .inl (cI, 8, .inl (fw))), (q7, .inl (cI, 8, .inl (ft)))]) [1, 2, 3, 4, 5, 6, 7, 8] rfl
  refine callRi (v := (if (inR n c) then nI 1 else nI 0)) (W.runV (As := [.int (c)]) (rest := []) ⟨hx, hb, hml, hown, hts⟩ (k_X3_has l dC dI cI cZ q0 q1 q2 q3 q4 q5 q6 q7 (fk) (fs) (fn) (fi) (fc) (fw) (ft) (n) (h) (th) (tt) (c) (by first | omega | with_reducible assumption | (simp; omega))) (cwV 1 hts gX4_refusalOf_X3_has rfl rfl rfl (by decide +kernel) ⟨Nat.le_of_ble_eq_true rfl, Nat.le_of_ble_eq_true rfl⟩) (preRV (q := (RX3, TX3, 11)) (ci := 2) hK hPc rfl rfl) rfl rfl hl.1 rfl (lv_room (Nat.le_of_ble_eq_true rfl)) dX4_refusalOf_5 ⟨Nat.zero_le _, Nat.zero_le _⟩) ?_
  refine w_ifneB (tgt := 14) hx hb dX4_refusalOf_8 (by decide) (fun c_1 => ?_) (fun c_1 => ?_)
  · skip
    refine lv_iload_n hx hb dX4_refusalOf_14 rfl (lv_at hl 2 rfl) ?_
    have hPc := hP.sub (ws' := []) [] rfl
    refine callRi (v := (if (inR 12 r) then nI 1 else nI 0)) (W.runS (As := [.int (r)]) (rest := []) ⟨hx, hb, hml, hown, hts⟩ (k_X4_isRule l dC dI cI cZ (r)) (va_cwS 1 hts gX4_refusalOf_X4_isRule rfl rfl rfl (by decide +kernel) ⟨Nat.le_of_ble_eq_true rfl, Nat.le_of_ble_eq_true rfl⟩) (preRS hK hPc) rfl rfl hl.1 rfl (lv_room (Nat.le_of_ble_eq_true rfl)) dX4_refusalOf_15 ⟨Nat.zero_le _, Nat.zero_le _⟩) ?_
    refine w_ifeqB (tgt := 25) hx hb dX4_refusalOf_18 (by decide) (fun c_2 => ?_) (fun c_2 => ?_)
    · skip
      refine lv_bipush (v := -102) hx hb dX4_refusalOf_25 (by decide) ?_
      exact retRi hx hb hr hlocks (by unfold gd; first | rw [if_pos c_1, if_pos c_2] | rw [if_pos c_1, if_neg c_2]) dX4_refusalOf_27
    · skip
      refine lv_iconst (v := nI 0) hx hb dX4_refusalOf_21 (by decide) ?_
      refine lv_goto (tgt := 27) hx hb dX4_refusalOf_22 (by decide) ?_
      exact retRi hx hb hr hlocks (by unfold gd; first | rw [if_pos c_1, if_pos c_2] | rw [if_pos c_1, if_neg c_2]) dX4_refusalOf_27
  · skip
    refine lv_bipush (v := -101) hx hb dX4_refusalOf_11 (by decide) ?_
    exact retRi hx hb hr hlocks (by unfold gd; rw [if_neg c_1]) dX4_refusalOf_13
