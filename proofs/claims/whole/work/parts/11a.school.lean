set_option maxHeartbeats 4000000 in
set_option maxRecDepth 100000 in
theorem k_X0_next (l : Launch) (dC : Nat → ClassId) (dI : Nat → Nat → Nat) (cI cZ : ClassId) (w0 : Nat) (sz : Nat) (sx : Nat) (o : Nat) (hsx : sx < 2147483648) (ho1 : 1 ≤ o) (ho : o < 2147483648) : Met l yX0_next wsX0_next ({ frames := 0, cells := 0, slots := 0, locals := 0 }) (va_Pc [.ref w0, .int (nI o)] (PW (dC, dI) cI cZ sz [(w0, .inr (0, [.long (lN sx)]))])) (QWi (dC, dI) (nI (nx sx / 65536 % o)) [(w0, .inr (0, [.long (lN sx)]))] [(w0, .inr (0, [.long (lN ((nx sx)))]))] sz) 0 0 (va_A [(w0, .inr (0, [.long (lN sx)]))] sz) := by
  refine Met.ofW (cc := cX0_next) (maxL := 2) (ret := (some .int)) (by decide) rfl ?_
  intro p e s m args below meth co s₁ B hml hv
  obtain ⟨rfl, hsz, hP, hK, hD0⟩ := hv
  have hx := B.exec
  have hb := B.bytes
  have hr := B.returns
  have hts := atoms_spec (ws := wsX0_next) B.pre
  have hown : s.vm.findClass RX0 = some m.cls := findClass_of_methodNamed B.named
  have hlocks := B.notSynchronized
  subst hsz
  have hD := hD0.self (sz := s.heap.size)
  generalize hAe : va_A [(w0, .inr (0, [.long (lN sx)]))] s.heap.size = A at hD
  have hA : ∀ q : Nat, s.heap.size ≤ q → A q := fun q h => by rw [← hAe]; exact Or.inr h
  have hS : va_S A s.heap s.heap [] := va_S.rf
  have inX0 : ∀ w ∈ u_ws RX0 TX0 1, w ∈ wsX0_next := by decide +kernel
  have lc13 := hts (.constantLong RX0 13 (1103515245)) (by decide +kernel)
  have lc15 := hts (.constantLong RX0 15 (12345)) (by decide +kernel)
  have lc17 := hts (.constantLong RX0 17 (2147483648)) (by decide +kernel)
  have lc19 := hts (.constantLong RX0 19 (65536)) (by decide +kernel)
  have lf7 := hts (.fieldLink RX0 7 "ThursdayRungs$Draws" "seed" "J") (by decide +kernel)
  have hl := lv_entry ([.ref w0, .int (nI o)]) (n := 2) (Nat.le_of_ble_eq_true rfl)
  rw [lg_entry_eq]
  generalize (lg_sl ([.ref w0, .int (nI o)]) ++ List.replicate (2 - (lg_sl ([.ref w0, .int (nI o)])).length) Slot.unset).toArray = ls at hl ⊢
  have hl : lv_has ls 2 [(0, .ref w0), (1, .int (nI o))] := hl
  have hP : va_P (dC, dI) vwCl [(w0, .inr (0, [.long (lN sx)]))] s.heap := hP
  refine lv_aload_n hx hb dX0_next_0 rfl (lv_at hl 0 rfl) ?_
  refine lv_ldc2 (v := 1103515245) hx hb hown lc13 dX0_next_1 ?_
  refine lv_aload_n hx hb dX0_next_4 rfl (lv_at hl 0 rfl) ?_
  refine va_get (D := (dC, dI)) (ci := 0) (v := .long (lN sx)) (C := RX0) (T := TX0) (N := 1) hx hb hts inX0 hown hK hP 0 rfl rfl 0 (by decide) lf7 (fun _ h9 => h9) rfl dX0_next_5 ?_
  refine lv_lmul hx hb dX0_next_8 ?_
  refine lv_ldc2 (v := 12345) hx hb hown lc15 dX0_next_9 ?_
  refine lv_ladd hx hb dX0_next_12 ?_
  refine lv_ldc2 (v := 2147483648) hx hb hown lc17 dX0_next_13 ?_
  refine lv_lrem hx hb dX0_next_16 (by decide) ?_
  rw [show (((((1103515245 : Int64)) * (lN sx)) + ((12345 : Int64))) - ((((1103515245 : Int64)) * (lN sx)) + ((12345 : Int64))) / ((2147483648 : Int64)) * ((2147483648 : Int64)) : Int64) = lN (nx sx) from nx_eq hsx]
  refine va_put (D := (dC, dI)) (ci := 0) (v := .long (lN (nx sx))) (ty := .long) (C := RX0) (T := TX0) (N := 1) hx hb hts inX0 tyX0 tyX0_ok nmX0 hown hK hP hD hS 0 rfl rfl 0 (by decide) lf7 (fun _ h9 => h9) rfl (by decide +kernel) rfl rfl (Nat.le_of_ble_eq_true rfl) dX0_next_17 (fun H locs hP hD hS => ?_)
  have hP : va_P (dC, dI) vwCl [(w0, .inr (0, [.long (lN (nx sx))]))] H := hP
  have hD : va_D A [(w0, .inr (0, [.long (lN (nx sx))]))] := hD
  refine lv_iload_n hx hb dX0_next_20 rfl (lv_at hl 1 rfl) ?_
  refine lv_iconst (v := nI 1) hx hb dX0_next_21 (by decide) ?_
  refine w_ci_ge (tgt := 29) hx hb (by omega) (by omega) dX0_next_22 (by decide) (fun c_1 => ?_) (fun c_1 => ?_)
  · skip
    refine lv_aload_n hx hb dX0_next_29 rfl (lv_at hl 0 rfl) ?_
    refine va_get (D := (dC, dI)) (ci := 0) (v := .long (lN (nx sx))) (C := RX0) (T := TX0) (N := 1) hx hb hts inX0 hown hK hP 0 rfl rfl 0 (by decide) lf7 (fun _ h9 => h9) rfl dX0_next_30 ?_
    refine lv_ldc2 (v := 65536) hx hb hown lc19 dX0_next_33 ?_
    refine lv_ldiv hx hb dX0_next_36 (by decide) ?_
    refine lv_iload_n hx hb dX0_next_37 rfl (lv_at hl 1 rfl) ?_
    refine lv_i2l (v := lN (o)) hx hb dX0_next_38 (nI_l (by omega)) ?_
    refine lv_lrem hx hb dX0_next_39 (lN_ne0 ho1 ho) ?_
    refine lv_l2i (v := Int64.toInt32 (((lN (nx sx)) / ((65536 : Int64))) - ((lN (nx sx)) / ((65536 : Int64))) / (lN o) * (lN o))) hx hb dX0_next_40 rfl ?_
    rw [show (Int64.toInt32 (((lN (nx sx)) / ((65536 : Int64))) - ((lN (nx sx)) / ((65536 : Int64))) / (lN o) * (lN o)) : Int32) = nI (nx sx / 65536 % o) from nx_draw hsx ho1 ho]
    have hP7 := hP.sub (ws' := [(w0, .inr (0, [.long (lN (nx sx))]))]) [0] rfl
    have hD7 := hD.sub (ws' := [(w0, .inr (0, [.long (lN (nx sx))]))]) [0] (by decide) rfl
    exact retWi hx hb hr hlocks rfl hP7 hD7 hS hAe dX0_next_41
  · skip
    omega
set_option maxHeartbeats 4000000 in
set_option maxRecDepth 100000 in
theorem k_X3_addHeard (l : Launch) (dC : Nat → ClassId) (dI : Nat → Nat → Nat) (cI cZ : ClassId) (q0 q1 q2 q3 q4 q5 q6 q7 : Nat) (sz : Nat) (fk fs fn fi fc fw ft : Nat → Int32) (n h : Nat) (th tt : Int32) (c : Int32) (kw : Int32) (tg : Int32) (hh8 : h < 8) : Met l yX3_addHeard wsX3_addHeard ({ frames := 1, cells := 0, slots := 0, locals := 20 }) (va_Pc [.ref q0, .int (c), .int (kw), .int (tg)] (PW (dC, dI) cI cZ sz [(q0, .inr (2, [.ref q1, .ref q2, .ref q3, .ref q4, .ref q5, .ref q6, .ref q7, .int (nI n), .int (nI h), .int (th), .int (tt)])), (q1, .inl (cI, 6, .inl (fk))), (q2, .inl (cI, 6, .inl (fs))), (q3, .inl (cI, 6, .inl (fn))), (q4, .inl (cZ, 6, .inl (fi))), (q5, .inl (cI, 8, .inl (fc))), (q6, .inl (cI, 8, .inl (fw))), (q7, .inl (cI, 8, .inl (ft)))])) (QWv (dC, dI) [(q0, .inr (2, [.ref q1, .ref q2, .ref q3, .ref q4, .ref q5, .ref q6, .ref q7, .int (nI n), .int (nI h), .int (th), .int (tt)])), (q1, .inl (cI, 6, .inl (fk))), (q2, .inl (cI, 6, .inl (fs))), (q3, .inl (cI, 6, .inl (fn))), (q4, .inl (cZ, 6, .inl (fi))), (q5, .inl (cI, 8, .inl (fc))), (q6, .inl (cI, 8, .inl (fw))), (q7, .inl (cI, 8, .inl (ft)))] [(q0, .inr (2, [.ref q1, .ref q2, .ref q3, .ref q4, .ref q5, .ref q6, .ref q7, .int (nI n), .int (nI ((h + 1))), .int (th), .int (tt)])), (q1, .inl (cI, 6, .inl (fk))), (q2, .inl (cI, 6, .inl (fs))), (q3, .inl (cI, 6, .inl (fn))), (q4, .inl (cZ, 6, .inl (fi))), (q5, .inl (cI, 8, .inl ((upd fc h c)))), (q6, .inl (cI, 8, .inl ((upd fw h kw)))), (q7, .inl (cI, 8, .inl ((upd ft h tg))))] sz) 0 0 (va_A [(q0, .inr (2, [.ref q1, .ref q2, .ref q3, .ref q4, .ref q5, .ref q6, .ref q7, .int (nI n), .int (nI h), .int (th), .int (tt)])), (q1, .inl (cI, 6, .inl (fk))), (q2, .inl (cI, 6, .inl (fs))), (q3, .inl (cI, 6, .inl (fn))), (q4, .inl (cZ, 6, .inl (fi))), (q5, .inl (cI, 8, .inl (fc))), (q6, .inl (cI, 8, .inl (fw))), (q7, .inl (cI, 8, .inl (ft)))] sz) := by
  refine Met.ofW (cc := cX3_addHeard) (maxL := 4) (ret := none) (by decide) rfl ?_
  intro p e s m args below meth co s₁ B hml hv
  obtain ⟨rfl, hsz, hP, hK, hD0⟩ := hv
  have hx := B.exec
  have hb := B.bytes
  have hr := B.returns
  have hts := atoms_spec (ws := wsX3_addHeard) B.pre
  have hown : s.vm.findClass RX3 = some m.cls := findClass_of_methodNamed B.named
  have hlocks := B.notSynchronized
  subst hsz
  have hD := hD0.self (sz := s.heap.size)
  generalize hAe : va_A [(q0, .inr (2, [.ref q1, .ref q2, .ref q3, .ref q4, .ref q5, .ref q6, .ref q7, .int (nI n), .int (nI h), .int (th), .int (tt)])), (q1, .inl (cI, 6, .inl (fk))), (q2, .inl (cI, 6, .inl (fs))), (q3, .inl (cI, 6, .inl (fn))), (q4, .inl (cZ, 6, .inl (fi))), (q5, .inl (cI, 8, .inl (fc))), (q6, .inl (cI, 8, .inl (fw))), (q7, .inl (cI, 8, .inl (ft)))] s.heap.size = A at hD
  have hA : ∀ q : Nat, s.heap.size ≤ q → A q := fun q h => by rw [← hAe]; exact Or.inr h
  have hS : va_S A s.heap s.heap [] := va_S.rf
  have inX3 : ∀ w ∈ u_ws RX3 TX3 11, w ∈ wsX3_addHeard := by decide +kernel
  have lf25 := hts (.fieldLink RX3 25 "ThursdayRungs$School" "heardChild" "[I") (by decide +kernel)
  have lf28 := hts (.fieldLink RX3 28 "ThursdayRungs$School" "heardKnew" "[I") (by decide +kernel)
  have lf31 := hts (.fieldLink RX3 31 "ThursdayRungs$School" "heardTaught" "[I") (by decide +kernel)
  have lf38 := hts (.fieldLink RX3 38 "ThursdayRungs$School" "heard" "I") (by decide +kernel)
  have hl := lv_entry ([.ref q0, .int (c), .int (kw), .int (tg)]) (n := 4) (Nat.le_of_ble_eq_true rfl)
  rw [lg_entry_eq]
  generalize (lg_sl ([.ref q0, .int (c), .int (kw), .int (tg)]) ++ List.replicate (4 - (lg_sl ([.ref q0, .int (c), .int (kw), .int (tg)])).length) Slot.unset).toArray = ls at hl ⊢
  have hl : lv_has ls 4 [(0, .ref q0), (1, .int (c)), (2, .int (kw)), (3, .int (tg))] := hl
  have hP : va_P (dC, dI) vwCl [(q0, .inr (2, [.ref q1, .ref q2, .ref q3, .ref q4, .ref q5, .ref q6, .ref q7, .int (nI n), .int (nI h), .int (th), .int (tt)])), (q1, .inl (cI, 6, .inl (fk))), (q2, .inl (cI, 6, .inl (fs))), (q3, .inl (cI, 6, .inl (fn))), (q4, .inl (cZ, 6, .inl (fi))), (q5, .inl (cI, 8, .inl (fc))), (q6, .inl (cI, 8, .inl (fw))), (q7, .inl (cI, 8, .inl (ft)))] s.heap := hP
  refine lv_aload_n hx hb dX3_addHeard_0 rfl (lv_at hl 0 rfl) ?_
  have hPc := hP.sub (ws' := [(q0, .inr (2, [.ref q1, .ref q2, .ref q3, .ref q4, .ref q5, .ref q6, .ref q7, .int (nI n), .int (nI h), .int (th), .int (tt)])), (q1, .inl (cI, 6, .inl (fk))), (q2, .inl (cI, 6, .inl (fs))), (q3, .inl (cI, 6, .inl (fn))), (q4, .inl (cZ, 6, .inl (fi))), (q5, .inl (cI, 8, .inl (fc))), (q6, .inl (cI, 8, .inl (fw))), (q7, .inl (cI, 8, .inl (ft)))]) [0, 1, 2, 3, 4, 5, 6, 7] rfl
  refine callRi (v := (if (8 ≤ h) then nI 1 else nI 0)) (W.runV (As := []) (rest := []) ⟨hx, hb, hml, hown, hts⟩ (k_X3_isHeardFull l dC dI cI cZ q0 q1 q2 q3 q4 q5 q6 q7 (fk) (fs) (fn) (fi) (fc) (fw) (ft) (n) (h) (th) (tt) (by first | omega | with_reducible assumption | (simp; omega))) (cwV 0 hts gX3_addHeard_X3_isHeardFull rfl rfl rfl (by decide +kernel) ⟨Nat.le_of_ble_eq_true rfl, Nat.le_of_ble_eq_true rfl⟩) (preRV (q := (RX3, TX3, 11)) (ci := 2) hK hPc rfl rfl) rfl rfl hl.1 rfl (lv_room (Nat.le_of_ble_eq_true rfl)) dX3_addHeard_1 ⟨Nat.zero_le _, Nat.zero_le _⟩) ?_
  refine w_ifneB (tgt := 47) hx hb dX3_addHeard_4 (by decide) (fun c_1 => ?_) (fun c_1 => ?_)
  · skip
    omega
  · skip
    refine lv_aload_n hx hb dX3_addHeard_7 rfl (lv_at hl 0 rfl) ?_
    refine va_get (D := (dC, dI)) (ci := 2) (v := .ref q5) (C := RX3) (T := TX3) (N := 11) hx hb hts inX3 hown hK hP 0 rfl rfl 4 (by decide) lf25 (fun _ h9 => h9) rfl dX3_addHeard_8 ?_
    refine lv_aload_n hx hb dX3_addHeard_11 rfl (lv_at hl 0 rfl) ?_
    refine va_get (D := (dC, dI)) (ci := 2) (v := .int (nI h)) (C := RX3) (T := TX3) (N := 11) hx hb hts inX3 hown hK hP 0 rfl rfl 8 (by decide) lf38 (fun _ h9 => h9) rfl dX3_addHeard_12 ?_
    refine lv_iload_n hx hb dX3_addHeard_15 rfl (lv_at hl 1 rfl) ?_
    refine w_iast (k := h) hx hb hK hP hD hS 5 0 rfl rfl (by omega) (by decide) dX3_addHeard_16 (fun H locs hP hD hS => ?_)
    have hP : va_P (dC, dI) vwCl [(q0, .inr (2, [.ref q1, .ref q2, .ref q3, .ref q4, .ref q5, .ref q6, .ref q7, .int (nI n), .int (nI h), .int (th), .int (tt)])), (q1, .inl (cI, 6, .inl (fk))), (q2, .inl (cI, 6, .inl (fs))), (q3, .inl (cI, 6, .inl (fn))), (q4, .inl (cZ, 6, .inl (fi))), (q5, .inl (cI, 8, .inl (upd fc h (c)))), (q6, .inl (cI, 8, .inl (fw))), (q7, .inl (cI, 8, .inl (ft)))] H := hP
    have hD : va_D A [(q0, .inr (2, [.ref q1, .ref q2, .ref q3, .ref q4, .ref q5, .ref q6, .ref q7, .int (nI n), .int (nI h), .int (th), .int (tt)])), (q1, .inl (cI, 6, .inl (fk))), (q2, .inl (cI, 6, .inl (fs))), (q3, .inl (cI, 6, .inl (fn))), (q4, .inl (cZ, 6, .inl (fi))), (q5, .inl (cI, 8, .inl (upd fc h (c)))), (q6, .inl (cI, 8, .inl (fw))), (q7, .inl (cI, 8, .inl (ft)))] := hD
    refine lv_aload_n hx hb dX3_addHeard_17 rfl (lv_at hl 0 rfl) ?_
    refine va_get (D := (dC, dI)) (ci := 2) (v := .ref q6) (C := RX3) (T := TX3) (N := 11) hx hb hts inX3 hown hK hP 0 rfl rfl 5 (by decide) lf28 (fun _ h9 => h9) rfl dX3_addHeard_18 ?_
    refine lv_aload_n hx hb dX3_addHeard_21 rfl (lv_at hl 0 rfl) ?_
    refine va_get (D := (dC, dI)) (ci := 2) (v := .int (nI h)) (C := RX3) (T := TX3) (N := 11) hx hb hts inX3 hown hK hP 0 rfl rfl 8 (by decide) lf38 (fun _ h9 => h9) rfl dX3_addHeard_22 ?_
    refine lv_iload_n hx hb dX3_addHeard_25 rfl (lv_at hl 2 rfl) ?_
    refine w_iast (k := h) hx hb hK hP hD hS 6 0 rfl rfl (by omega) (by decide) dX3_addHeard_26 (fun H locs hP hD hS => ?_)
    have hP : va_P (dC, dI) vwCl [(q0, .inr (2, [.ref q1, .ref q2, .ref q3, .ref q4, .ref q5, .ref q6, .ref q7, .int (nI n), .int (nI h), .int (th), .int (tt)])), (q1, .inl (cI, 6, .inl (fk))), (q2, .inl (cI, 6, .inl (fs))), (q3, .inl (cI, 6, .inl (fn))), (q4, .inl (cZ, 6, .inl (fi))), (q5, .inl (cI, 8, .inl (upd fc h (c)))), (q6, .inl (cI, 8, .inl (upd fw h (kw)))), (q7, .inl (cI, 8, .inl (ft)))] H := hP
    have hD : va_D A [(q0, .inr (2, [.ref q1, .ref q2, .ref q3, .ref q4, .ref q5, .ref q6, .ref q7, .int (nI n), .int (nI h), .int (th), .int (tt)])), (q1, .inl (cI, 6, .inl (fk))), (q2, .inl (cI, 6, .inl (fs))), (q3, .inl (cI, 6, .inl (fn))), (q4, .inl (cZ, 6, .inl (fi))), (q5, .inl (cI, 8, .inl (upd fc h (c)))), (q6, .inl (cI, 8, .inl (upd fw h (kw)))), (q7, .inl (cI, 8, .inl (ft)))] := hD
    refine lv_aload_n hx hb dX3_addHeard_27 rfl (lv_at hl 0 rfl) ?_
    refine va_get (D := (dC, dI)) (ci := 2) (v := .ref q7) (C := RX3) (T := TX3) (N := 11) hx hb hts inX3 hown hK hP 0 rfl rfl 6 (by decide) lf31 (fun _ h9 => h9) rfl dX3_addHeard_28 ?_
    refine lv_aload_n hx hb dX3_addHeard_31 rfl (lv_at hl 0 rfl) ?_
    refine va_get (D := (dC, dI)) (ci := 2) (v := .int (nI h)) (C := RX3) (T := TX3) (N := 11) hx hb hts inX3 hown hK hP 0 rfl rfl 8 (by decide) lf38 (fun _ h9 => h9) rfl dX3_addHeard_32 ?_
    refine lv_iload_n hx hb dX3_addHeard_35 rfl (lv_at hl 3 rfl) ?_
    refine w_iast (k := h) hx hb hK hP hD hS 7 0 rfl rfl (by omega) (by decide) dX3_addHeard_36 (fun H locs hP hD hS => ?_)
    have hP : va_P (dC, dI) vwCl [(q0, .inr (2, [.ref q1, .ref q2, .ref q3, .ref q4, .ref q5, .ref q6, .ref q7, .int (nI n), .int (nI h), .int (th), .int (tt)])), (q1, .inl (cI, 6, .inl (fk))), (q2, .inl (cI, 6, .inl (fs))), (q3, .inl (cI, 6, .inl (fn))), (q4, .inl (cZ, 6, .inl (fi))), (q5, .inl (cI, 8, .inl (upd fc h (c)))), (q6, .inl (cI, 8, .inl (upd fw h (kw)))), (q7, .inl (cI, 8, .inl (upd ft h (tg))))] H := hP
    have hD : va_D A [(q0, .inr (2, [.ref q1, .ref q2, .ref q3, .ref q4, .ref q5, .ref q6, .ref q7, .int (nI n), .int (nI h), .int (th), .int (tt)])), (q1, .inl (cI, 6, .inl (fk))), (q2, .inl (cI, 6, .inl (fs))), (q3, .inl (cI, 6, .inl (fn))), (q4, .inl (cZ, 6, .inl (fi))), (q5, .inl (cI, 8, .inl (upd fc h (c)))), (q6, .inl (cI, 8, .inl (upd fw h (kw)))), (q7, .inl (cI, 8, .inl (upd ft h (tg))))] := hD
    refine lv_aload_n hx hb dX3_addHeard_37 rfl (lv_at hl 0 rfl) ?_
    refine lv_dup hx hb dX3_addHeard_38 rfl ?_
    refine va_get (D := (dC, dI)) (ci := 2) (v := .int (nI h)) (C := RX3) (T := TX3) (N := 11) hx hb hts inX3 hown hK hP 0 rfl rfl 8 (by decide) lf38 (fun _ h9 => h9) rfl dX3_addHeard_39 ?_
    refine lv_iconst (v := nI 1) hx hb dX3_addHeard_42 (by decide) ?_
    refine w_addN hx hb dX3_addHeard_43 ?_
    refine va_put (D := (dC, dI)) (ci := 2) (v := .int (nI (h + 1))) (ty := .int) (C := RX3) (T := TX3) (N := 11) hx hb hts inX3 tyX3 tyX3_ok nmX3 hown hK hP hD hS 0 rfl rfl 8 (by decide) lf38 (fun _ h9 => h9) rfl (by decide +kernel) rfl rfl (Nat.le_of_ble_eq_true rfl) dX3_addHeard_44 (fun H locs hP hD hS => ?_)
    have hP : va_P (dC, dI) vwCl [(q0, .inr (2, [.ref q1, .ref q2, .ref q3, .ref q4, .ref q5, .ref q6, .ref q7, .int (nI n), .int (nI (h + 1)), .int (th), .int (tt)])), (q1, .inl (cI, 6, .inl (fk))), (q2, .inl (cI, 6, .inl (fs))), (q3, .inl (cI, 6, .inl (fn))), (q4, .inl (cZ, 6, .inl (fi))), (q5, .inl (cI, 8, .inl (upd fc h (c)))), (q6, .inl (cI, 8, .inl (upd fw h (kw)))), (q7, .inl (cI, 8, .inl (upd ft h (tg))))] H := hP
    have hD : va_D A [(q0, .inr (2, [.ref q1, .ref q2, .ref q3, .ref q4, .ref q5, .ref q6, .ref q7, .int (nI n), .int (nI (h + 1)), .int (th), .int (tt)])), (q1, .inl (cI, 6, .inl (fk))), (q2, .inl (cI, 6, .inl (fs))), (q3, .inl (cI, 6, .inl (fn))), (q4, .inl (cZ, 6, .inl (fi))), (q5, .inl (cI, 8, .inl (upd fc h (c)))), (q6, .inl (cI, 8, .inl (upd fw h (kw)))), (q7, .inl (cI, 8, .inl (upd ft h (tg))))] := hD
    have hP7 := hP.sub (ws' := [(q0, .inr (2, [.ref q1, .ref q2, .ref q3, .ref q4, .ref q5, .ref q6, .ref q7, .int (nI n), .int (nI (h + 1)), .int (th), .int (tt)])), (q1, .inl (cI, 6, .inl (fk))), (q2, .inl (cI, 6, .inl (fs))), (q3, .inl (cI, 6, .inl (fn))), (q4, .inl (cZ, 6, .inl (fi))), (q5, .inl (cI, 8, .inl (upd fc h (c)))), (q6, .inl (cI, 8, .inl (upd fw h (kw)))), (q7, .inl (cI, 8, .inl (upd ft h (tg))))]) [0, 1, 2, 3, 4, 5, 6, 7] rfl
    have hD7 := hD.sub (ws' := [(q0, .inr (2, [.ref q1, .ref q2, .ref q3, .ref q4, .ref q5, .ref q6, .ref q7, .int (nI n), .int (nI (h + 1)), .int (th), .int (tt)])), (q1, .inl (cI, 6, .inl (fk))), (q2, .inl (cI, 6, .inl (fs))), (q3, .inl (cI, 6, .inl (fn))), (q4, .inl (cZ, 6, .inl (fi))), (q5, .inl (cI, 8, .inl (upd fc h (c)))), (q6, .inl (cI, 8, .inl (upd fw h (kw)))), (q7, .inl (cI, 8, .inl (upd ft h (tg))))]) [0, 1, 2, 3, 4, 5, 6, 7] (by decide) rfl
    exact retWv hx hb hr hlocks hP7 hD7 hS hAe dX3_addHeard_47
