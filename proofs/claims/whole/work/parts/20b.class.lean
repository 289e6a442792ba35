set_option maxHeartbeats 4000000 in
set_option maxRecDepth 100000 in
theorem k_X4_teaches (l : Launch) (dC : Nat → ClassId) (dI : Nat → Nat → Nat) (cI cZ : ClassId) (t0 g0 q0 kq0 tq0 w0 q1 q2 q3 q4 q5 q6 q7 : Nat) (fk fs fn fi fc fw ft : Nat → Int32) (n h : Nat) (sr th tt : Int32) (c : Int32) (r : Int32) (hn6 : n ≤ 6) : Met l yX4_teaches wsX4_teaches ({ frames := 2, cells := 0, slots := 0, locals := 43 }) (va_Pc [.ref t0, .int (c), .int (r)] (PR (dC, dI) cI cZ [(t0, .inr (3, [.ref g0, .ref q0, .ref kq0, .ref tq0, .ref w0, .int (sr)])), (q0, .inr (2, [.ref q1, .ref q2, .ref q3, .ref q4, .ref q5, .ref q6, .ref q7, .int (nI n), .int (nI h), .int (th), .int (tt)])), (q1, .inl (cI, 6, .inl (fk))), (q2, .inl (cI, 6, .inl (fs))), (q3, .inl (cI, 6, .inl (fn))), (q4, .inl (cZ, 6, .inl (fi))), (q5, .inl (cI, 8, .inl (fc))), (q6, .inl (cI, 8, .inl (fw))), (q7, .inl (cI, 8, .inl (ft)))])) (QRi ((gd n c r (tb (fk (ix c)) (fs (ix c)) r)))) 0 0 noF := by
  refine Met.ofW (cc := cX4_teaches) (maxL := 4) (ret := (some .int)) (by decide) rfl ?_
  intro p e s m args below meth co s₁ B hml hv
  obtain ⟨rfl, hP, hK⟩ := hv
  have hx := B.exec
  have hb := B.bytes
  have hr := B.returns
  have hts := atoms_spec (ws := wsX4_teaches) B.pre
  have hown : s.vm.findClass RX4 = some m.cls := findClass_of_methodNamed B.named
  have hlocks := B.notSynchronized
  have inX3 : ∀ w ∈ u_ws RX3 TX3 11, w ∈ wsX4_teaches := by decide +kernel
  have inX4 : ∀ w ∈ u_ws RX4 TX4 6, w ∈ wsX4_teaches := by decide +kernel
  have lf19 := hts (.fieldLink RX4 19 "ThursdayRungs" "school" "LThursdayRungs$School;") (by decide +kernel)
  have lf67 := hts (.fieldLink RX4 67 "ThursdayRungs$School" "kinds" "[I") (by decide +kernel)
  have lf71 := hts (.fieldLink RX4 71 "ThursdayRungs$School" "slips" "[I") (by decide +kernel)
  have hl := lv_entry ([.ref t0, .int (c), .int (r)]) (n := 4) (Nat.le_of_ble_eq_true rfl)
  rw [lg_entry_eq]
  generalize (lg_sl ([.ref t0, .int (c), .int (r)]) ++ List.replicate (4 - (lg_sl ([.ref t0, .int (c), .int (r)])).length) Slot.unset).toArray = ls at hl ⊢
  have hl : lv_has ls 4 [(0, .ref t0), (1, .int (c)), (2, .int (r))] := hl
  refine lv_aload_n hx hb dX4_teaches_0 rfl (lv_at hl 0 rfl) ?_
  refine lv_iload_n hx hb dX4_teaches_1 rfl (lv_at hl 1 rfl) ?_
  refine lv_iload_n hx hb dX4_teaches_2 rfl (lv_at hl 2 rfl) ?_
  have hPc := hP.sub (ws' := [(t0, .inr (3, [.ref g0, .ref q0, .ref kq0, .ref tq0, .ref w0, .int (sr)])), (q0, .inr (2, [.ref q1, .ref q2, .ref q3, .ref q4, .ref q5, .ref q6, .ref q7, .int (nI n), .int (nI h), .int (th), .int (tt)])), (q1, .inl (cI, 6, .inl (fk))), (q2, .inl (cI, 6, .inl (fs))), (q3, .inl (cI, 6, .inl (fn))), (q4, .inl (cZ, 6, .inl (fi))), (q5, .inl (cI, 8, .inl (fc))), (q6, .inl (cI, 8, .inl (fw))), (q7, .inl (cI, 8, .inl (ft)))]) [0, 1, 2, 3, 4, 5, 6, 7, 8] rfl
  refine callRi (v := (gd n c r (nI 0))) (W.runV (As := [.int (c), .int (r)]) (rest := []) ⟨hx, hb, hml, hown, hts⟩ (k_X4_refusalOf l dC dI cI cZ t0 g0 q0 kq0 tq0 w0 q1 q2 q3 q4 q5 q6 q7 (fk) (fs) (fn) (fi) (fc) (fw) (ft) (n) (h) (sr) (th) (tt) (c) (r) (by first | omega | with_reducible assumption | (simp; omega))) (cwV 2 hts gX4_teaches_X4_refusalOf rfl rfl rfl (by decide +kernel) ⟨Nat.le_of_ble_eq_true rfl, Nat.le_of_ble_eq_true rfl⟩) (preRV (q := (RX4, TX4, 6)) (ci := 3) hK hPc rfl rfl) rfl rfl hl.1 rfl (lv_room (Nat.le_of_ble_eq_true rfl)) dX4_teaches_3 ⟨Nat.zero_le _, Nat.zero_le _⟩) ?_
  refine lv_istore_n (lv' := [(3, .int ((gd n c r (nI 0)))), (0, .ref t0), (1, .int (c)), (2, .int (r))]) hx hb dX4_teaches_6 rfl hl (by decide) rfl (fun ls hl => ?_)
  refine lv_iload_n hx hb dX4_teaches_7 rfl (lv_at hl 0 rfl) ?_
  refine lv_if_eq (tgt := 15) hx hb dX4_teaches_8 (by decide) (fun c_1 => ?_) (fun c_1 => ?_)
  · skip
    obtain ⟨⟨k, hk, rfl⟩, ⟨q, hq, rfl⟩⟩ := gd_ok c_1
    refine lv_aload_n hx hb dX4_teaches_15 rfl (lv_at hl 1 rfl) ?_
    refine va_get (D := (dC, dI)) (ci := 3) (v := .ref q0) (C := RX4) (T := TX4) (N := 6) hx hb hts inX4 hown hK hP 0 rfl rfl 1 (by decide) lf19 (fun _ h9 => h9) rfl dX4_teaches_16 ?_
    refine va_get (D := (dC, dI)) (ci := 2) (v := .ref q1) (C := RX3) (T := TX3) (N := 11) hx hb hts inX3 hown hK hP 1 rfl rfl 0 (by decide) lf67 (fun _ h9 => h9) rfl dX4_teaches_19 ?_
    refine lv_iload_n hx hb dX4_teaches_22 rfl (lv_at hl 2 rfl) ?_
    refine w_iald (k := k) hx hb hK hP 2 0 rfl rfl (by omega) (by decide) dX4_teaches_23 ?_
    refine lv_aload_n hx hb dX4_teaches_24 rfl (lv_at hl 1 rfl) ?_
    refine va_get (D := (dC, dI)) (ci := 3) (v := .ref q0) (C := RX4) (T := TX4) (N := 6) hx hb hts inX4 hown hK hP 0 rfl rfl 1 (by decide) lf19 (fun _ h9 => h9) rfl dX4_teaches_25 ?_
    refine va_get (D := (dC, dI)) (ci := 2) (v := .ref q2) (C := RX3) (T := TX3) (N := 11) hx hb hts inX3 hown hK hP 1 rfl rfl 1 (by decide) lf71 (fun _ h9 => h9) rfl dX4_teaches_28 ?_
    refine lv_iload_n hx hb dX4_teaches_31 rfl (lv_at hl 2 rfl) ?_
    refine w_iald (k := k) hx hb hK hP 3 0 rfl rfl (by omega) (by decide) dX4_teaches_32 ?_
    refine lv_iload_n hx hb dX4_teaches_33 rfl (lv_at hl 3 rfl) ?_
    have hPc := hP.sub (ws' := []) [] rfl
    refine callRi (v := (tb (fk k) (fs k) (nI q))) (W.runS (As := [.int (fk k), .int (fs k), .int (nI q)]) (rest := []) ⟨hx, hb, hml, hown, hts⟩ (k_X1_passesOn l dC dI cI cZ (fk k) (fs k) (nI q)) (va_cwS 3 hts gX4_teaches_X1_passesOn rfl rfl rfl (by decide +kernel) ⟨Nat.le_of_ble_eq_true rfl, Nat.le_of_ble_eq_true rfl⟩) (preRS hK hPc) rfl rfl hl.1 rfl (lv_room (Nat.le_of_ble_eq_true rfl)) dX4_teaches_34 ⟨Nat.zero_le _, Nat.zero_le _⟩) ?_
    exact retRi hx hb hr hlocks (by first | exact gd_no hq | rw [gd_yes hk (by omega) hq, ix_nI (show k < 2147483648 by omega)]) dX4_teaches_37
  · skip
    refine lv_iload_n hx hb dX4_teaches_11 rfl (lv_at hl 0 rfl) ?_
    refine lv_goto (tgt := 37) hx hb dX4_teaches_12 (by decide) ?_
    exact retRi hx hb hr hlocks (by first | exact gd_no c_1 | rw [gd_yes hk (by omega) hq, ix_nI (show k < 2147483648 by omega)]) dX4_teaches_37
set_option maxHeartbeats 4000000 in
set_option maxRecDepth 100000 in
theorem k_X4_tell (l : Launch) (dC : Nat → ClassId) (dI : Nat → Nat → Nat) (cI cZ : ClassId) (t0 g0 q0 kq0 tq0 w0 q1 q2 q3 q4 q5 q6 q7 : Nat) (sz : Nat) (fk fs fn fi fc fw ft : Nat → Int32) (n h : Nat) (sr th tt : Int32) (c : Int32) (r : Int32) (hn6 : n ≤ 6) : Met l yX4_tell wsX4_tell ({ frames := 2, cells := 0, slots := 0, locals := 43 }) (va_Pc [.ref t0, .int (c), .int (r)] (PW (dC, dI) cI cZ sz [(t0, .inr (3, [.ref g0, .ref q0, .ref kq0, .ref tq0, .ref w0, .int (sr)])), (q0, .inr (2, [.ref q1, .ref q2, .ref q3, .ref q4, .ref q5, .ref q6, .ref q7, .int (nI n), .int (nI h), .int (th), .int (tt)])), (q1, .inl (cI, 6, .inl (fk))), (q2, .inl (cI, 6, .inl (fs))), (q3, .inl (cI, 6, .inl (fn))), (q4, .inl (cZ, 6, .inl (fi))), (q5, .inl (cI, 8, .inl (fc))), (q6, .inl (cI, 8, .inl (fw))), (q7, .inl (cI, 8, .inl (ft)))])) (QWi (dC, dI) ((gd n c r (fn (ix c)))) [(t0, .inr (3, [.ref g0, .ref q0, .ref kq0, .ref tq0, .ref w0, .int (sr)])), (q0, .inr (2, [.ref q1, .ref q2, .ref q3, .ref q4, .ref q5, .ref q6, .ref q7, .int (nI n), .int (nI h), .int (th), .int (tt)])), (q1, .inl (cI, 6, .inl (fk))), (q2, .inl (cI, 6, .inl (fs))), (q3, .inl (cI, 6, .inl (fn))), (q4, .inl (cZ, 6, .inl (fi))), (q5, .inl (cI, 8, .inl (fc))), (q6, .inl (cI, 8, .inl (fw))), (q7, .inl (cI, 8, .inl (ft)))] [(t0, .inr (3, [.ref g0, .ref q0, .ref kq0, .ref tq0, .ref w0, .int (sr)])), (q0, .inr (2, [.ref q1, .ref q2, .ref q3, .ref q4, .ref q5, .ref q6, .ref q7, .int (nI n), .int (nI h), .int (th), .int (tt)])), (q1, .inl (cI, 6, .inl (fk))), (q2, .inl (cI, 6, .inl (fs))), (q3, .inl (cI, 6, .inl ((tellN n fn c r)))), (q4, .inl (cZ, 6, .inl (fi))), (q5, .inl (cI, 8, .inl (fc))), (q6, .inl (cI, 8, .inl (fw))), (q7, .inl (cI, 8, .inl (ft)))] sz) 0 0 (va_A [(t0, .inr (3, [.ref g0, .ref q0, .ref kq0, .ref tq0, .ref w0, .int (sr)])), (q0, .inr (2, [.ref q1, .ref q2, .ref q3, .ref q4, .ref q5, .ref q6, .ref q7, .int (nI n), .int (nI h), .int (th), .int (tt)])), (q1, .inl (cI, 6, .inl (fk))), (q2, .inl (cI, 6, .inl (fs))), (q3, .inl (cI, 6, .inl (fn))), (q4, .inl (cZ, 6, .inl (fi))), (q5, .inl (cI, 8, .inl (fc))), (q6, .inl (cI, 8, .inl (fw))), (q7, .inl (cI, 8, .inl (ft)))] sz) := by
  refine Met.ofW (cc := cX4_tell) (maxL := 5) (ret := (some .int)) (by decide) rfl ?_
  intro p e s m args below meth co s₁ B hml hv
  obtain ⟨rfl, hsz, hP, hK, hD0⟩ := hv
  have hx := B.exec
  have hb := B.bytes
  have hr := B.returns
  have hts := atoms_spec (ws := wsX4_tell) B.pre
  have hown : s.vm.findClass RX4 = some m.cls := findClass_of_methodNamed B.named
  have hlocks := B.notSynchronized
  subst hsz
  have hD := hD0.self (sz := s.heap.size)
  generalize hAe : va_A [(t0, .inr (3, [.ref g0, .ref q0, .ref kq0, .ref tq0, .ref w0, .int (sr)])), (q0, .inr (2, [.ref q1, .ref q2, .ref q3, .ref q4, .ref q5, .ref q6, .ref q7, .int (nI n), .int (nI h), .int (th), .int (tt)])), (q1, .inl (cI, 6, .inl (fk))), (q2, .inl (cI, 6, .inl (fs))), (q3, .inl (cI, 6, .inl (fn))), (q4, .inl (cZ, 6, .inl (fi))), (q5, .inl (cI, 8, .inl (fc))), (q6, .inl (cI, 8, .inl (fw))), (q7, .inl (cI, 8, .inl (ft)))] s.heap.size = A at hD
  have hA : ∀ q : Nat, s.heap.size ≤ q → A q := fun q h => by rw [← hAe]; exact Or.inr h
  have hS : va_S A s.heap s.heap [] := va_S.rf
  have inX3 : ∀ w ∈ u_ws RX3 TX3 11, w ∈ wsX4_tell := by decide +kernel
  have inX4 : ∀ w ∈ u_ws RX4 TX4 6, w ∈ wsX4_tell := by decide +kernel
  have lf19 := hts (.fieldLink RX4 19 "ThursdayRungs" "school" "LThursdayRungs$School;") (by decide +kernel)
  have lf74 := hts (.fieldLink RX4 74 "ThursdayRungs$School" "known" "[I") (by decide +kernel)
  have hl := lv_entry ([.ref t0, .int (c), .int (r)]) (n := 5) (Nat.le_of_ble_eq_true rfl)
  rw [lg_entry_eq]
  generalize (lg_sl ([.ref t0, .int (c), .int (r)]) ++ List.replicate (5 - (lg_sl ([.ref t0, .int (c), .int (r)])).length) Slot.unset).toArray = ls at hl ⊢
  have hl : lv_has ls 5 [(0, .ref t0), (1, .int (c)), (2, .int (r))] := hl
  have hP : va_P (dC, dI) vwCl [(t0, .inr (3, [.ref g0, .ref q0, .ref kq0, .ref tq0, .ref w0, .int (sr)])), (q0, .inr (2, [.ref q1, .ref q2, .ref q3, .ref q4, .ref q5, .ref q6, .ref q7, .int (nI n), .int (nI h), .int (th), .int (tt)])), (q1, .inl (cI, 6, .inl (fk))), (q2, .inl (cI, 6, .inl (fs))), (q3, .inl (cI, 6, .inl (fn))), (q4, .inl (cZ, 6, .inl (fi))), (q5, .inl (cI, 8, .inl (fc))), (q6, .inl (cI, 8, .inl (fw))), (q7, .inl (cI, 8, .inl (ft)))] s.heap := hP
  refine lv_aload_n hx hb dX4_tell_0 rfl (lv_at hl 0 rfl) ?_
  refine lv_iload_n hx hb dX4_tell_1 rfl (lv_at hl 1 rfl) ?_
  refine lv_iload_n hx hb dX4_tell_2 rfl (lv_at hl 2 rfl) ?_
  have hPc := hP.sub (ws' := [(t0, .inr (3, [.ref g0, .ref q0, .ref kq0, .ref tq0, .ref w0, .int (sr)])), (q0, .inr (2, [.ref q1, .ref q2, .ref q3, .ref q4, .ref q5, .ref q6, .ref q7, .int (nI n), .int (nI h), .int (th), .int (tt)])), (q1, .inl (cI, 6, .inl (fk))), (q2, .inl (cI, 6, .inl (fs))), (q3, .inl (cI, 6, .inl (fn))), (q4, .inl (cZ, 6, .inl (fi))), (q5, .inl (cI, 8, .inl (fc))), (q6, .inl (cI, 8, .inl (fw))), (q7, .inl (cI, 8, .inl (ft)))]) [0, 1, 2, 3, 4, 5, 6, 7, 8] rfl
  refine callRi (v := (gd n c r (nI 0))) (W.runV (As := [.int (c), .int (r)]) (rest := []) ⟨hx, hb, hml, hown, hts⟩ (k_X4_refusalOf l dC dI cI cZ t0 g0 q0 kq0 tq0 w0 q1 q2 q3 q4 q5 q6 q7 (fk) (fs) (fn) (fi) (fc) (fw) (ft) (n) (h) (sr) (th) (tt) (c) (r) (by first | omega | with_reducible assumption | (simp; omega))) (cwV 2 hts gX4_tell_X4_refusalOf rfl rfl rfl (by decide +kernel) ⟨Nat.le_of_ble_eq_true rfl, Nat.le_of_ble_eq_true rfl⟩) (preRV (q := (RX4, TX4, 6)) (ci := 3) hK hPc rfl rfl) rfl rfl hl.1 rfl (lv_room (Nat.le_of_ble_eq_true rfl)) dX4_tell_3 ⟨Nat.zero_le _, Nat.zero_le _⟩) ?_
  refine lv_istore_n (lv' := [(3, .int ((gd n c r (nI 0)))), (0, .ref t0), (1, .int (c)), (2, .int (r))]) hx hb dX4_tell_6 rfl hl (by decide) rfl (fun ls hl => ?_)
  refine lv_iload_n hx hb dX4_tell_7 rfl (lv_at hl 0 rfl) ?_
  refine lv_if_eq (tgt := 13) hx hb dX4_tell_8 (by decide) (fun c_1 => ?_) (fun c_1 => ?_)
  · skip
    obtain ⟨⟨k, hk, rfl⟩, ⟨q, hq, rfl⟩⟩ := gd_ok c_1
    refine lv_aload_n hx hb dX4_tell_13 rfl (lv_at hl 1 rfl) ?_
    refine va_get (D := (dC, dI)) (ci := 3) (v := .ref q0) (C := RX4) (T := TX4) (N := 6) hx hb hts inX4 hown hK hP 0 rfl rfl 1 (by decide) lf19 (fun _ h9 => h9) rfl dX4_tell_14 ?_
    refine va_get (D := (dC, dI)) (ci := 2) (v := .ref q3) (C := RX3) (T := TX3) (N := 11) hx hb hts inX3 hown hK hP 1 rfl rfl 2 (by decide) lf74 (fun _ h9 => h9) rfl dX4_tell_17 ?_
    refine lv_iload_n hx hb dX4_tell_20 rfl (lv_at hl 2 rfl) ?_
    refine w_iald (k := k) hx hb hK hP 4 0 rfl rfl (by omega) (by decide) dX4_tell_21 ?_
    refine lv_istore (lv' := [(4, .int (fn k)), (3, .int ((gd n (nI k) (nI q) (nI 0)))), (0, .ref t0), (1, .int (nI k)), (2, .int (nI q))]) hx hb dX4_tell_22 hl (by decide) rfl (fun ls hl => ?_)
    refine lv_aload_n hx hb dX4_tell_24 rfl (lv_at hl 2 rfl) ?_
    refine va_get (D := (dC, dI)) (ci := 3) (v := .ref q0) (C := RX4) (T := TX4) (N := 6) hx hb hts inX4 hown hK hP 0 rfl rfl 1 (by decide) lf19 (fun _ h9 => h9) rfl dX4_tell_25 ?_
    refine va_get (D := (dC, dI)) (ci := 2) (v := .ref q3) (C := RX3) (T := TX3) (N := 11) hx hb hts inX3 hown hK hP 1 rfl rfl 2 (by decide) lf74 (fun _ h9 => h9) rfl dX4_tell_28 ?_
    refine lv_iload_n hx hb dX4_tell_31 rfl (lv_at hl 3 rfl) ?_
    refine lv_iload_n hx hb dX4_tell_32 rfl (lv_at hl 4 rfl) ?_
    refine w_iast (k := k) hx hb hK hP hD hS 4 0 rfl rfl (by omega) (by decide) dX4_tell_33 (fun H locs hP hD hS => ?_)
    have hP : va_P (dC, dI) vwCl [(t0, .inr (3, [.ref g0, .ref q0, .ref kq0, .ref tq0, .ref w0, .int (sr)])), (q0, .inr (2, [.ref q1, .ref q2, .ref q3, .ref q4, .ref q5, .ref q6, .ref q7, .int (nI n), .int (nI h), .int (th), .int (tt)])), (q1, .inl (cI, 6, .inl (fk))), (q2, .inl (cI, 6, .inl (fs))), (q3, .inl (cI, 6, .inl (upd fn k (nI q)))), (q4, .inl (cZ, 6, .inl (fi))), (q5, .inl (cI, 8, .inl (fc))), (q6, .inl (cI, 8, .inl (fw))), (q7, .inl (cI, 8, .inl (ft)))] H := hP
    have hD : va_D A [(t0, .inr (3, [.ref g0, .ref q0, .ref kq0, .ref tq0, .ref w0, .int (sr)])), (q0, .inr (2, [.ref q1, .ref q2, .ref q3, .ref q4, .ref q5, .ref q6, .ref q7, .int (nI n), .int (nI h), .int (th), .int (tt)])), (q1, .inl (cI, 6, .inl (fk))), (q2, .inl (cI, 6, .inl (fs))), (q3, .inl (cI, 6, .inl (upd fn k (nI q)))), (q4, .inl (cZ, 6, .inl (fi))), (q5, .inl (cI, 8, .inl (fc))), (q6, .inl (cI, 8, .inl (fw))), (q7, .inl (cI, 8, .inl (ft)))] := hD
    refine lv_iload hx hb dX4_tell_34 (lv_at hl 0 rfl) ?_
    have hP7 := hP.sub (ws' := [(t0, .inr (3, [.ref g0, .ref q0, .ref kq0, .ref tq0, .ref w0, .int (sr)])), (q0, .inr (2, [.ref q1, .ref q2, .ref q3, .ref q4, .ref q5, .ref q6, .ref q7, .int (nI n), .int (nI h), .int (th), .int (tt)])), (q1, .inl (cI, 6, .inl (fk))), (q2, .inl (cI, 6, .inl (fs))), (q3, .inl (cI, 6, .inl (upd fn k (nI q)))), (q4, .inl (cZ, 6, .inl (fi))), (q5, .inl (cI, 8, .inl (fc))), (q6, .inl (cI, 8, .inl (fw))), (q7, .inl (cI, 8, .inl (ft)))]) [0, 1, 2, 3, 4, 5, 6, 7, 8] rfl
    have hD7 := hD.sub (ws' := [(t0, .inr (3, [.ref g0, .ref q0, .ref kq0, .ref tq0, .ref w0, .int (sr)])), (q0, .inr (2, [.ref q1, .ref q2, .ref q3, .ref q4, .ref q5, .ref q6, .ref q7, .int (nI n), .int (nI h), .int (th), .int (tt)])), (q1, .inl (cI, 6, .inl (fk))), (q2, .inl (cI, 6, .inl (fs))), (q3, .inl (cI, 6, .inl (upd fn k (nI q)))), (q4, .inl (cZ, 6, .inl (fi))), (q5, .inl (cI, 8, .inl (fc))), (q6, .inl (cI, 8, .inl (fw))), (q7, .inl (cI, 8, .inl (ft)))]) [0, 1, 2, 3, 4, 5, 6, 7, 8] (by decide) rfl
    have he_2 : (upd fn k (nI q) : Nat → Int32) = (tellN n fn (nI k) (nI q)) := by exact tellN_yes hk (by omega) hq
    have heq : ([(t0, .inr (3, [.ref g0, .ref q0, .ref kq0, .ref tq0, .ref w0, .int (sr)])), (q0, .inr (2, [.ref q1, .ref q2, .ref q3, .ref q4, .ref q5, .ref q6, .ref q7, .int (nI n), .int (nI h), .int (th), .int (tt)])), (q1, .inl (cI, 6, .inl (fk))), (q2, .inl (cI, 6, .inl (fs))), (q3, .inl (cI, 6, .inl (upd fn k (nI q)))), (q4, .inl (cZ, 6, .inl (fi))), (q5, .inl (cI, 8, .inl (fc))), (q6, .inl (cI, 8, .inl (fw))), (q7, .inl (cI, 8, .inl (ft)))] : va_W) = [(t0, .inr (3, [.ref g0, .ref q0, .ref kq0, .ref tq0, .ref w0, .int (sr)])), (q0, .inr (2, [.ref q1, .ref q2, .ref q3, .ref q4, .ref q5, .ref q6, .ref q7, .int (nI n), .int (nI h), .int (th), .int (tt)])), (q1, .inl (cI, 6, .inl (fk))), (q2, .inl (cI, 6, .inl (fs))), (q3, .inl (cI, 6, .inl ((tellN n fn (nI k) (nI q))))), (q4, .inl (cZ, 6, .inl (fi))), (q5, .inl (cI, 8, .inl (fc))), (q6, .inl (cI, 8, .inl (fw))), (q7, .inl (cI, 8, .inl (ft)))] := by rw [← he_2]
    have hP7 := w_Pc hP7 heq
    have hD7 := w_Dc hD7 heq
    exact retWi hx hb hr hlocks (by rw [gd_yes hk (by omega) hq, ix_nI (show k < 2147483648 by omega)]) hP7 hD7 hS hAe dX4_tell_36
  · skip
    refine lv_iload_n hx hb dX4_tell_11 rfl (lv_at hl 0 rfl) ?_
    have hP7 := hP.sub (ws' := [(t0, .inr (3, [.ref g0, .ref q0, .ref kq0, .ref tq0, .ref w0, .int (sr)])), (q0, .inr (2, [.ref q1, .ref q2, .ref q3, .ref q4, .ref q5, .ref q6, .ref q7, .int (nI n), .int (nI h), .int (th), .int (tt)])), (q1, .inl (cI, 6, .inl (fk))), (q2, .inl (cI, 6, .inl (fs))), (q3, .inl (cI, 6, .inl (fn))), (q4, .inl (cZ, 6, .inl (fi))), (q5, .inl (cI, 8, .inl (fc))), (q6, .inl (cI, 8, .inl (fw))), (q7, .inl (cI, 8, .inl (ft)))]) [0, 1, 2, 3, 4, 5, 6, 7, 8] rfl
    have hD7 := hD.sub (ws' := [(t0, .inr (3, [.ref g0, .ref q0, .ref kq0, .ref tq0, .ref w0, .int (sr)])), (q0, .inr (2, [.ref q1, .ref q2, .ref q3, .ref q4, .ref q5, .ref q6, .ref q7, .int (nI n), .int (nI h), .int (th), .int (tt)])), (q1, .inl (cI, 6, .inl (fk))), (q2, .inl (cI, 6, .inl (fs))), (q3, .inl (cI, 6, .inl (fn))), (q4, .inl (cZ, 6, .inl (fi))), (q5, .inl (cI, 8, .inl (fc))), (q6, .inl (cI, 8, .inl (fw))), (q7, .inl (cI, 8, .inl (ft)))]) [0, 1, 2, 3, 4, 5, 6, 7, 8] (by decide) rfl
    have he_3 : (fn : Nat → Int32) = (tellN n fn c r) := by exact tellN_no c_1
    have heq : ([(t0, .inr (3, [.ref g0, .ref q0, .ref kq0, .ref tq0, .ref w0, .int (sr)])), (q0, .inr (2, [.ref q1, .ref q2, .ref q3, .ref q4, .ref q5, .ref q6, .ref q7, .int (nI n), .int (nI h), .int (th), .int (tt)])), (q1, .inl (cI, 6, .inl (fk))), (q2, .inl (cI, 6, .inl (fs))), (q3, .inl (cI, 6, .inl (fn))), (q4, .inl (cZ, 6, .inl (fi))), (q5, .inl (cI, 8, .inl (fc))), (q6, .inl (cI, 8, .inl (fw))), (q7, .inl (cI, 8, .inl (ft)))] : va_W) = [(t0, .inr (3, [.ref g0, .ref q0, .ref kq0, .ref tq0, .ref w0, .int (sr)])), (q0, .inr (2, [.ref q1, .ref q2, .ref q3, .ref q4, .ref q5, .ref q6, .ref q7, .int (nI n), .int (nI h), .int (th), .int (tt)])), (q1, .inl (cI, 6, .inl (fk))), (q2, .inl (cI, 6, .inl (fs))), (q3, .inl (cI, 6, .inl ((tellN n fn c r)))), (q4, .inl (cZ, 6, .inl (fi))), (q5, .inl (cI, 8, .inl (fc))), (q6, .inl (cI, 8, .inl (fw))), (q7, .inl (cI, 8, .inl (ft)))] := by rw [← he_3]
    have hP7 := w_Pc hP7 heq
    have hD7 := w_Dc hD7 heq
    exact retWi hx hb hr hlocks (by exact gd_no c_1) hP7 hD7 hS hAe dX4_tell_12
set_option maxHeartbeats 4000000 in
set_option maxRecDepth 100000 in
theorem k_X4_as (l : Launch) (dC : Nat → ClassId) (dI : Nat → Nat → Nat) (cI cZ : ClassId) (t0 g0 q0 kq0 tq0 w0 q1 q2 q3 q4 q5 q6 q7 : Nat) (fk fs fn fi fc fw ft : Nat → Int32) (n h : Nat) (sr th tt : Int32) (c : Int32) (k2 : Int32) (hn6 : n ≤ 6) : Met l yX4_as wsX4_as ({ frames := 1, cells := 0, slots := 0, locals := 21 }) (va_Pc [.ref t0, .int (c), .int (k2)] (PR (dC, dI) cI cZ [(t0, .inr (3, [.ref g0, .ref q0, .ref kq0, .ref tq0, .ref w0, .int (sr)])), (q0, .inr (2, [.ref q1, .ref q2, .ref q3, .ref q4, .ref q5, .ref q6, .ref q7, .int (nI n), .int (nI h), .int (th), .int (tt)])), (q1, .inl (cI, 6, .inl (fk))), (q2, .inl (cI, 6, .inl (fs))), (q3, .inl (cI, 6, .inl (fn))), (q4, .inl (cZ, 6, .inl (fi))), (q5, .inl (cI, 8, .inl (fc))), (q6, .inl (cI, 8, .inl (fw))), (q7, .inl (cI, 8, .inl (ft)))])) (QRi ((asF n fk c k2))) 0 0 noF := by
  refine Met.ofW (cc := cX4_as) (maxL := 3) (ret := (some .int)) (by decide) rfl ?_
  intro p e s m args below meth co s₁ B hml hv
  obtain ⟨rfl, hP, hK⟩ := hv
  have hx := B.exec
  have hb := B.bytes
  have hr := B.returns
  have hts := atoms_spec (ws := wsX4_as) B.pre
  have hown : s.vm.findClass RX4 = some m.cls := findClass_of_methodNamed B.named
  have hlocks := B.notSynchronized
  have inX3 : ∀ w ∈ u_ws RX3 TX3 11, w ∈ wsX4_as := by decide +kernel
  have inX4 : ∀ w ∈ u_ws RX4 TX4 6, w ∈ wsX4_as := by decide +kernel
  have lf19 := hts (.fieldLink RX4 19 "ThursdayRungs" "school" "LThursdayRungs$School;") (by decide +kernel)
  have lf67 := hts (.fieldLink RX4 67 "ThursdayRungs$School" "kinds" "[I") (by decide +kernel)
  have hl := lv_entry ([.ref t0, .int (c), .int (k2)]) (n := 3) (Nat.le_of_ble_eq_true rfl)
  rw [lg_entry_eq]
  generalize (lg_sl ([.ref t0, .int (c), .int (k2)]) ++ List.replicate (3 - (lg_sl ([.ref t0, .int (c), .int (k2)])).length) Slot.unset).toArray = ls at hl ⊢
  have hl : lv_has ls 3 [(0, .ref t0), (1, .int (c)), (2, .int (k2))] := hl
  refine lv_aload_n hx hb dX4_as_0 rfl (lv_at hl 0 rfl) ?_
  refine va_get (D := (dC, dI)) (ci := 3) (v := .ref q0) (C := RX4) (T := TX4) (N := 6) hx hb hts inX4 hown hK hP 0 rfl rfl 1 (by decide) lf19 (fun _ h9 => h9) rfl dX4_as_1 ?_
  refine lv_iload_n hx hb dX4_as_4 rfl (lv_at hl 1 rfl) ?_
  have hPc := hP.sub (ws' := [(q0, .inr (2, [.ref q1, .ref q2, .ref q3, .ref q4, .ref q5, .ref q6, .ref q7, .int (nI n), .int (nI h), .int (th), .int (tt)])), (q1, .inl (cI, 6, .inl (fk))), (q2, .inl (cI, 6, .inl (fs))), (q3, .inl (cI, 6, .inl (fn))), (q4, .inl (cZ, 6, .inl (fi))), (q5, .inl (cI, 8, .inl (fc))), (q6, .inl (cI, 8, .inl (fw))), (q7, .inl (cI, 8, .inl (ft)))]) [1, 2, 3, 4, 5, 6, 7, 8] rfl
  refine callRi (v := (if (inR n c) then nI 1 else nI 0)) (W.runV (As := [.int (c)]) (rest := []) ⟨hx, hb, hml, hown, hts⟩ (k_X3_has l dC dI cI cZ q0 q1 q2 q3 q4 q5 q6 q7 (fk) (fs) (fn) (fi) (fc) (fw) (ft) (n) (h) (th) (tt) (c) (by first | omega | with_reducible assumption | (simp; omega))) (cwV 1 hts gX4_as_X3_has rfl rfl rfl (by decide +kernel) ⟨Nat.le_of_ble_eq_true rfl, Nat.le_of_ble_eq_true rfl⟩) (preRV (q := (RX3, TX3, 11)) (ci := 2) hK hPc rfl rfl) rfl rfl hl.1 rfl (lv_room (Nat.le_of_ble_eq_true rfl)) dX4_as_5 ⟨Nat.zero_le _, Nat.zero_le _⟩) ?_
  refine w_ifneB (tgt := 14) hx hb dX4_as_8 (by decide) (fun c_1 => ?_) (fun c_1 => ?_)
  · skip
    obtain ⟨k, hk, rfl⟩ := inR_of c_1
    refine lv_iload_n hx hb dX4_as_14 rfl (lv_at hl 2 rfl) ?_
    refine lv_if_lt (tgt := 23) hx hb dX4_as_15 (by decide) (fun c_2 => ?_) (fun c_2 => ?_)
    · skip
      refine lv_bipush (v := -102) hx hb dX4_as_23 (by decide) ?_
      exact retRi hx hb hr hlocks (by exact asF_o hk (by omega) (by first | exact Or.inl c_2 | exact Or.inr c_2)) dX4_as_25
    · skip
      refine lv_iload_n hx hb dX4_as_18 rfl (lv_at hl 2 rfl) ?_
      refine lv_iconst (v := nI 5) hx hb dX4_as_19 (by decide) ?_
      refine lv_icmp_lt (tgt := 26) hx hb dX4_as_20 (by decide) (fun c_3 => ?_) (fun c_3 => ?_)
      · skip
        refine lv_aload_n hx hb dX4_as_26 rfl (lv_at hl 0 rfl) ?_
        refine va_get (D := (dC, dI)) (ci := 3) (v := .ref q0) (C := RX4) (T := TX4) (N := 6) hx hb hts inX4 hown hK hP 0 rfl rfl 1 (by decide) lf19 (fun _ h9 => h9) rfl dX4_as_27 ?_
        refine va_get (D := (dC, dI)) (ci := 2) (v := .ref q1) (C := RX3) (T := TX3) (N := 11) hx hb hts inX3 hown hK hP 1 rfl rfl 0 (by decide) lf67 (fun _ h9 => h9) rfl dX4_as_30 ?_
        refine lv_iload_n hx hb dX4_as_33 rfl (lv_at hl 1 rfl) ?_
        refine w_iald (k := k) hx hb hK hP 2 0 rfl rfl (by omega) (by decide) dX4_as_34 ?_
        refine lv_iload_n hx hb dX4_as_35 rfl (lv_at hl 2 rfl) ?_
        have hPc := hP.sub (ws' := []) [] rfl
        refine callRi (v := (if (k2 = nI 0 ∨ (fk k) = k2 ∨ ((fk k) = nI 4 ∧ k2 = nI 1)) then nI 1 else nI 0)) (W.runS (As := [.int (fk k), .int (k2)]) (rest := []) ⟨hx, hb, hml, hown, hts⟩ (k_X1_isA l dC dI cI cZ (fk k) (k2)) (va_cwS 2 hts gX4_as_X1_isA rfl rfl rfl (by decide +kernel) ⟨Nat.le_of_ble_eq_true rfl, Nat.le_of_ble_eq_true rfl⟩) (preRS hK hPc) rfl rfl hl.1 rfl (lv_room (Nat.le_of_ble_eq_true rfl)) dX4_as_36 ⟨Nat.zero_le _, Nat.zero_le _⟩) ?_
        refine w_ifeqB (tgt := 46) hx hb dX4_as_39 (by decide) (fun c_4 => ?_) (fun c_4 => ?_)
        · skip
          refine lv_iconst (v := -1) hx hb dX4_as_46 (by decide) ?_
          exact retRi hx hb hr hlocks (by first | exact asF_y hk (by omega) c_2 c_3 c_4 | exact asF_n hk (by omega) c_2 c_3 c_4) dX4_as_47
        · skip
          refine lv_iload_n hx hb dX4_as_42 rfl (lv_at hl 1 rfl) ?_
          refine lv_goto (tgt := 47) hx hb dX4_as_43 (by decide) ?_
          exact retRi hx hb hr hlocks (by first | exact asF_y hk (by omega) c_2 c_3 c_4 | exact asF_n hk (by omega) c_2 c_3 c_4) dX4_as_47
      · skip
        refine lv_bipush (v := -102) hx hb dX4_as_23 (by decide) ?_
        exact retRi hx hb hr hlocks (by exact asF_o hk (by omega) (by first | exact Or.inl c_3 | exact Or.inr c_3)) dX4_as_25
  · skip
    refine lv_bipush (v := -101) hx hb dX4_as_11 (by decide) ?_
    exact retRi hx hb hr hlocks (by unfold asF; rw [if_neg c_1]) dX4_as_13
