set_option maxHeartbeats 4000000 in
set_option maxRecDepth 100000 in
theorem k_X3_taughtNowBy (l : Launch) (dC : Nat → ClassId) (dI : Nat → Nat → Nat) (cI cZ : ClassId) (q0 q1 q2 q3 q4 q5 q6 q7 : Nat) (fk fs fn fi fc fw ft : Nat → Int32) (n h : Nat) (th tt : Int32) (c : Nat) (hc : c < 6) : Met l yX3_taughtNowBy wsX3_taughtNowBy ({ frames := 1, cells := 0, slots := 0, locals := 22 }) (va_Pc [.ref q0, .int (nI c)] (PR (dC, dI) cI cZ [(q0, .inr (2, [.ref q1, .ref q2, .ref q3, .ref q4, .ref q5, .ref q6, .ref q7, .int (nI n), .int (nI h), .int (th), .int (tt)])), (q1, .inl (cI, 6, .inl (fk))), (q2, .inl (cI, 6, .inl (fs))), (q3, .inl (cI, 6, .inl (fn))), (q4, .inl (cZ, 6, .inl (fi))), (q5, .inl (cI, 8, .inl (fc))), (q6, .inl (cI, 8, .inl (fw))), (q7, .inl (cI, 8, .inl (ft)))])) (QRi ((wt fk fs fn fi c))) 0 0 noF := by
  refine Met.ofW (cc := cX3_taughtNowBy) (maxL := 2) (ret := (some .int)) (by decide) rfl ?_
  intro p e s m args below meth co s₁ B hml hv
  obtain ⟨rfl, hP, hK⟩ := hv
  have hx := B.exec
  have hb := B.bytes
  have hr := B.returns
  have hts := atoms_spec (ws := wsX3_taughtNowBy) B.pre
  have hown : s.vm.findClass RX3 = some m.cls := findClass_of_methodNamed B.named
  have hlocks := B.notSynchronized
  have inX3 : ∀ w ∈ u_ws RX3 TX3 11, w ∈ wsX3_taughtNowBy := by decide +kernel
  have lf11 := hts (.fieldLink RX3 11 "ThursdayRungs$School" "kinds" "[I") (by decide +kernel)
  have lf15 := hts (.fieldLink RX3 15 "ThursdayRungs$School" "slips" "[I") (by decide +kernel)
  have lf18 := hts (.fieldLink RX3 18 "ThursdayRungs$School" "known" "[I") (by decide +kernel)
  have lf21 := hts (.fieldLink RX3 21 "ThursdayRungs$School" "ill" "[Z") (by decide +kernel)
  have hl := lv_entry ([.ref q0, .int (nI c)]) (n := 2) (Nat.le_of_ble_eq_true rfl)
  rw [lg_entry_eq]
  generalize (lg_sl ([.ref q0, .int (nI c)]) ++ List.replicate (2 - (lg_sl ([.ref q0, .int (nI c)])).length) Slot.unset).toArray = ls at hl ⊢
  have hl : lv_has ls 2 [(0, .ref q0), (1, .int (nI c))] := hl
  refine lv_aload_n hx hb dX3_taughtNowBy_0 rfl (lv_at hl 0 rfl) ?_
  refine va_get (D := (dC, dI)) (ci := 2) (v := .ref q3) (C := RX3) (T := TX3) (N := 11) hx hb hts inX3 hown hK hP 0 rfl rfl 2 (by decide) lf18 (fun _ h9 => h9) rfl dX3_taughtNowBy_1 ?_
  refine lv_iload_n hx hb dX3_taughtNowBy_4 rfl (lv_at hl 1 rfl) ?_
  refine w_iald (k := c) hx hb hK hP 3 0 rfl rfl (by omega) (by decide) dX3_taughtNowBy_5 ?_
  refine lv_iconst (v := -1) hx hb dX3_taughtNowBy_6 (by decide) ?_
  refine lv_icmp_eq (tgt := 19) hx hb dX3_taughtNowBy_7 (by decide) (fun c_1 => ?_) (fun c_1 => ?_)
  · skip
    refine lv_iconst (v := -1) hx hb dX3_taughtNowBy_19 (by decide) ?_
    refine lv_goto (tgt := 44) hx hb dX3_taughtNowBy_20 (by decide) ?_
    exact retRi hx hb hr hlocks (by simp_all [wt, nI]) dX3_taughtNowBy_44
  · skip
    refine lv_aload_n hx hb dX3_taughtNowBy_10 rfl (lv_at hl 0 rfl) ?_
    refine va_get (D := (dC, dI)) (ci := 2) (v := .ref q4) (C := RX3) (T := TX3) (N := 11) hx hb hts inX3 hown hK hP 0 rfl rfl 3 (by decide) lf21 (fun _ h9 => h9) rfl dX3_taughtNowBy_11 ?_
    refine lv_iload_n hx hb dX3_taughtNowBy_14 rfl (lv_at hl 1 rfl) ?_
    refine w_zald (k := c) hx hb hK hP 4 1 rfl rfl (by omega) (by decide) dX3_taughtNowBy_15 ?_
    refine lv_if_eq (tgt := 23) hx hb dX3_taughtNowBy_16 (by decide) (fun c_2 => ?_) (fun c_2 => ?_)
    · skip
      refine lv_aload_n hx hb dX3_taughtNowBy_23 rfl (lv_at hl 0 rfl) ?_
      refine va_get (D := (dC, dI)) (ci := 2) (v := .ref q1) (C := RX3) (T := TX3) (N := 11) hx hb hts inX3 hown hK hP 0 rfl rfl 0 (by decide) lf11 (fun _ h9 => h9) rfl dX3_taughtNowBy_24 ?_
      refine lv_iload_n hx hb dX3_taughtNowBy_27 rfl (lv_at hl 1 rfl) ?_
      refine w_iald (k := c) hx hb hK hP 1 0 rfl rfl (by omega) (by decide) dX3_taughtNowBy_28 ?_
      refine lv_aload_n hx hb dX3_taughtNowBy_29 rfl (lv_at hl 0 rfl) ?_
      refine va_get (D := (dC, dI)) (ci := 2) (v := .ref q2) (C := RX3) (T := TX3) (N := 11) hx hb hts inX3 hown hK hP 0 rfl rfl 1 (by decide) lf15 (fun _ h9 => h9) rfl dX3_taughtNowBy_30 ?_
      refine lv_iload_n hx hb dX3_taughtNowBy_33 rfl (lv_at hl 1 rfl) ?_
      refine w_iald (k := c) hx hb hK hP 2 0 rfl rfl (by omega) (by decide) dX3_taughtNowBy_34 ?_
      refine lv_aload_n hx hb dX3_taughtNowBy_35 rfl (lv_at hl 0 rfl) ?_
      refine va_get (D := (dC, dI)) (ci := 2) (v := .ref q3) (C := RX3) (T := TX3) (N := 11) hx hb hts inX3 hown hK hP 0 rfl rfl 2 (by decide) lf18 (fun _ h9 => h9) rfl dX3_taughtNowBy_36 ?_
      refine lv_iload_n hx hb dX3_taughtNowBy_39 rfl (lv_at hl 1 rfl) ?_
      refine w_iald (k := c) hx hb hK hP 3 0 rfl rfl (by omega) (by decide) dX3_taughtNowBy_40 ?_
      have hPc := hP.sub (ws' := []) [] rfl
      refine callRi (v := (tb (fk c) (fs c) (fn c))) (W.runS (As := [.int (fk c), .int (fs c), .int (fn c)]) (rest := []) ⟨hx, hb, hml, hown, hts⟩ (k_X1_passesOn l dC dI cI cZ (fk c) (fs c) (fn c)) (va_cwS 3 hts gX3_taughtNowBy_X1_passesOn rfl rfl rfl (by decide +kernel) ⟨Nat.le_of_ble_eq_true rfl, Nat.le_of_ble_eq_true rfl⟩) (preRS hK hPc) rfl rfl hl.1 rfl (lv_room (Nat.le_of_ble_eq_true rfl)) dX3_taughtNowBy_41 ⟨Nat.zero_le _, Nat.zero_le _⟩) ?_
      exact retRi hx hb hr hlocks (by simp_all [wt, nI]) dX3_taughtNowBy_44
    · skip
      refine lv_iconst (v := -1) hx hb dX3_taughtNowBy_19 (by decide) ?_
      refine lv_goto (tgt := 44) hx hb dX3_taughtNowBy_20 (by decide) ?_
      exact retRi hx hb hr hlocks (by simp_all [wt, nI]) dX3_taughtNowBy_44
set_option maxHeartbeats 4000000 in
set_option maxRecDepth 100000 in
theorem k_X3_isTaughtNext (l : Launch) (dC : Nat → ClassId) (dI : Nat → Nat → Nat) (cI cZ : ClassId) (q0 q1 q2 q3 q4 q5 q6 q7 : Nat) (fk fs fn fi fc fw ft : Nat → Int32) (n h : Nat) (th tt : Int32) (c : Nat) (hc : c < 6) : Met l yX3_isTaughtNext wsX3_isTaughtNext ({ frames := 2, cells := 0, slots := 0, locals := 43 }) (va_Pc [.ref q0, .int (nI c)] (PR (dC, dI) cI cZ [(q0, .inr (2, [.ref q1, .ref q2, .ref q3, .ref q4, .ref q5, .ref q6, .ref q7, .int (nI n), .int (nI h), .int (th), .int (tt)])), (q1, .inl (cI, 6, .inl (fk))), (q2, .inl (cI, 6, .inl (fs))), (q3, .inl (cI, 6, .inl (fn))), (q4, .inl (cZ, 6, .inl (fi))), (q5, .inl (cI, 8, .inl (fc))), (q6, .inl (cI, 8, .inl (fw))), (q7, .inl (cI, 8, .inl (ft)))])) (QRi ((if (ttP fk fs fn fi c) then nI 1 else nI 0))) 0 0 noF := by
  refine Met.ofW (cc := cX3_isTaughtNext) (maxL := 2) (ret := (some .boolean)) (by decide) rfl ?_
  intro p e s m args below meth co s₁ B hml hv
  obtain ⟨rfl, hP, hK⟩ := hv
  have hx := B.exec
  have hb := B.bytes
  have hr := B.returns
  have hts := atoms_spec (ws := wsX3_isTaughtNext) B.pre
  have hown : s.vm.findClass RX3 = some m.cls := findClass_of_methodNamed B.named
  have hlocks := B.notSynchronized
  have inX3 : ∀ w ∈ u_ws RX3 TX3 11, w ∈ wsX3_isTaughtNext := by decide +kernel
  have lf21 := hts (.fieldLink RX3 21 "ThursdayRungs$School" "ill" "[Z") (by decide +kernel)
  have hl := lv_entry ([.ref q0, .int (nI c)]) (n := 2) (Nat.le_of_ble_eq_true rfl)
  rw [lg_entry_eq]
  generalize (lg_sl ([.ref q0, .int (nI c)]) ++ List.replicate (2 - (lg_sl ([.ref q0, .int (nI c)])).length) Slot.unset).toArray = ls at hl ⊢
  have hl : lv_has ls 2 [(0, .ref q0), (1, .int (nI c))] := hl
  refine lv_iload_n hx hb dX3_isTaughtNext_0 rfl (lv_at hl 1 rfl) ?_
  refine w_ifleN (tgt := 28) hx hb (by omega) dX3_isTaughtNext_1 (by decide) (fun c_1 => ?_) (fun c_1 => ?_)
  · skip
    refine lv_iconst (v := nI 0) hx hb dX3_isTaughtNext_28 (by decide) ?_
    exact retRz hx hb hr hlocks rfl (by simp_all [ttP, nI_0]) dX3_isTaughtNext_29
  · skip
    refine lv_aload_n hx hb dX3_isTaughtNext_4 rfl (lv_at hl 0 rfl) ?_
    refine va_get (D := (dC, dI)) (ci := 2) (v := .ref q4) (C := RX3) (T := TX3) (N := 11) hx hb hts inX3 hown hK hP 0 rfl rfl 3 (by decide) lf21 (fun _ h9 => h9) rfl dX3_isTaughtNext_5 ?_
    refine lv_iload_n hx hb dX3_isTaughtNext_8 rfl (lv_at hl 1 rfl) ?_
    refine w_zald (k := c) hx hb hK hP 4 1 rfl rfl (by omega) (by decide) dX3_isTaughtNext_9 ?_
    refine lv_if_ne (tgt := 28) hx hb dX3_isTaughtNext_10 (by decide) (fun c_2 => ?_) (fun c_2 => ?_)
    · skip
      refine lv_iconst (v := nI 0) hx hb dX3_isTaughtNext_28 (by decide) ?_
      exact retRz hx hb hr hlocks rfl (by simp_all [ttP, nI_0]) dX3_isTaughtNext_29
    · skip
      refine lv_aload_n hx hb dX3_isTaughtNext_13 rfl (lv_at hl 0 rfl) ?_
      refine lv_iload_n hx hb dX3_isTaughtNext_14 rfl (lv_at hl 1 rfl) ?_
      refine lv_iconst (v := nI 1) hx hb dX3_isTaughtNext_15 (by decide) ?_
      refine w_subN hx hb (by omega) dX3_isTaughtNext_16 ?_
      have hPc := hP.sub (ws' := [(q0, .inr (2, [.ref q1, .ref q2, .ref q3, .ref q4, .ref q5, .ref q6, .ref q7, .int (nI n), .int (nI h), .int (th), .int (tt)])), (q1, .inl (cI, 6, .inl (fk))), (q2, .inl (cI, 6, .inl (fs))), (q3, .inl (cI, 6, .inl (fn))), (q4, .inl (cZ, 6, .inl (fi))), (q5, .inl (cI, 8, .inl (fc))), (q6, .inl (cI, 8, .inl (fw))), (q7, .inl (cI, 8, .inl (ft)))]) [0, 1, 2, 3, 4, 5, 6, 7] rfl
      refine callRi (v := (wt fk fs fn fi (c - 1))) (W.runV (As := [.int (nI (c - 1))]) (rest := []) ⟨hx, hb, hml, hown, hts⟩ (k_X3_taughtNowBy l dC dI cI cZ q0 q1 q2 q3 q4 q5 q6 q7 (fk) (fs) (fn) (fi) (fc) (fw) (ft) (n) (h) (th) (tt) (c - 1) (by first | omega | with_reducible assumption | (simp; omega))) (cwV 1 hts gX3_isTaughtNext_X3_taughtNowBy rfl rfl rfl (by decide +kernel) ⟨Nat.le_of_ble_eq_true rfl, Nat.le_of_ble_eq_true rfl⟩) (preRV (q := (RX3, TX3, 11)) (ci := 2) hK hPc rfl rfl) rfl rfl hl.1 rfl (lv_room (Nat.le_of_ble_eq_true rfl)) dX3_isTaughtNext_17 ⟨Nat.zero_le _, Nat.zero_le _⟩) ?_
      refine lv_iconst (v := -1) hx hb dX3_isTaughtNext_20 (by decide) ?_
      refine lv_icmp_eq (tgt := 28) hx hb dX3_isTaughtNext_21 (by decide) (fun c_3 => ?_) (fun c_3 => ?_)
      · skip
        refine lv_iconst (v := nI 0) hx hb dX3_isTaughtNext_28 (by decide) ?_
        exact retRz hx hb hr hlocks rfl (by simp_all [ttP, nI_0]) dX3_isTaughtNext_29
      · skip
        refine lv_iconst (v := nI 1) hx hb dX3_isTaughtNext_24 (by decide) ?_
        refine lv_goto (tgt := 29) hx hb dX3_isTaughtNext_25 (by decide) ?_
        exact retRz hx hb hr hlocks rfl (by simp_all [ttP, nI_0]) dX3_isTaughtNext_29
