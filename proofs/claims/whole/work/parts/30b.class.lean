set_option maxHeartbeats 4000000 in
set_option maxRecDepth 100000 in
theorem k_X4_child (l : Launch) (dC : Nat → ClassId) (dI : Nat → Nat → Nat) (cI cZ : ClassId) (t0 g0 q0 kq0 tq0 w0 q1 q2 q3 q4 q5 q6 q7 : Nat) (fk fs fn fi fc fw ft : Nat → Int32) (n h : Nat) (sr th tt : Int32) (c : Int32) (w : Int32) (hn6 : n ≤ 6) (hh8 : h ≤ 8) : Met l yX4_child wsX4_child ({ frames := 4, cells := 0, slots := 0, locals := 97 }) (va_Pc [.ref t0, .int (c), .int (w)] (PR (dC, dI) cI cZ [(t0, .inr (3, [.ref g0, .ref q0, .ref kq0, .ref tq0, .ref w0, .int (sr)])), (q0, .inr (2, [.ref q1, .ref q2, .ref q3, .ref q4, .ref q5, .ref q6, .ref q7, .int (nI n), .int (nI h), .int (th), .int (tt)])), (q1, .inl (cI, 6, .inl (fk))), (q2, .inl (cI, 6, .inl (fs))), (q3, .inl (cI, 6, .inl (fn))), (q4, .inl (cZ, 6, .inl (fi))), (q5, .inl (cI, 8, .inl (fc))), (q6, .inl (cI, 8, .inl (fw))), (q7, .inl (cI, 8, .inl (ft)))])) (QRi ((chF n h fk fs fn fi fc fw ft c w))) 0 0 noF := by
  refine Met.ofW (cc := cX4_child) (maxL := 3) (ret := (some .int)) (by decide) rfl ?_
  intro p e s m args below meth co s₁ B hml hv
  obtain ⟨rfl, hP, hK⟩ := hv
  have hx := B.exec
  have hb := B.bytes
  have hr := B.returns
  have hts := atoms_spec (ws := wsX4_child) B.pre
  have hown : s.vm.findClass RX4 = some m.cls := findClass_of_methodNamed B.named
  have hlocks := B.notSynchronized
  have inX3 : ∀ w ∈ u_ws RX3 TX3 11, w ∈ wsX4_child := by decide +kernel
  have inX4 : ∀ w ∈ u_ws RX4 TX4 6, w ∈ wsX4_child := by decide +kernel
  have lf19 := hts (.fieldLink RX4 19 "ThursdayRungs" "school" "LThursdayRungs$School;") (by decide +kernel)
  have lf67 := hts (.fieldLink RX4 67 "ThursdayRungs$School" "kinds" "[I") (by decide +kernel)
  have lf71 := hts (.fieldLink RX4 71 "ThursdayRungs$School" "slips" "[I") (by decide +kernel)
  have lf74 := hts (.fieldLink RX4 74 "ThursdayRungs$School" "known" "[I") (by decide +kernel)
  have lf77 := hts (.fieldLink RX4 77 "ThursdayRungs$School" "ill" "[Z") (by decide +kernel)
  have hl := lv_entry ([.ref t0, .int (c), .int (w)]) (n := 3) (Nat.le_of_ble_eq_true rfl)
  rw [lg_entry_eq]
  generalize (lg_sl ([.ref t0, .int (c), .int (w)]) ++ List.replicate (3 - (lg_sl ([.ref t0, .int (c), .int (w)])).length) Slot.unset).toArray = ls at hl ⊢
  have hl : lv_has ls 3 [(0, .ref t0), (1, .int (c)), (2, .int (w))] := hl
  refine lv_aload_n hx hb dX4_child_0 rfl (lv_at hl 0 rfl) ?_
  refine va_get (D := (dC, dI)) (ci := 3) (v := .ref q0) (C := RX4) (T := TX4) (N := 6) hx hb hts inX4 hown hK hP 0 rfl rfl 1 (by decide) lf19 (fun _ h9 => h9) rfl dX4_child_1 ?_
  refine lv_iload_n hx hb dX4_child_4 rfl (lv_at hl 1 rfl) ?_
  have hPc := hP.sub (ws' := [(q0, .inr (2, [.ref q1, .ref q2, .ref q3, .ref q4, .ref q5, .ref q6, .ref q7, .int (nI n), .int (nI h), .int (th), .int (tt)])), (q1, .inl (cI, 6, .inl (fk))), (q2, .inl (cI, 6, .inl (fs))), (q3, .inl (cI, 6, .inl (fn))), (q4, .inl (cZ, 6, .inl (fi))), (q5, .inl (cI, 8, .inl (fc))), (q6, .inl (cI, 8, .inl (fw))), (q7, .inl (cI, 8, .inl (ft)))]) [1, 2, 3, 4, 5, 6, 7, 8] rfl
  refine callRi (v := (if (inR n c) then nI 1 else nI 0)) (W.runV (As := [.int (c)]) (rest := []) ⟨hx, hb, hml, hown, hts⟩ (k_X3_has l dC dI cI cZ q0 q1 q2 q3 q4 q5 q6 q7 (fk) (fs) (fn) (fi) (fc) (fw) (ft) (n) (h) (th) (tt) (c) (by first | omega | with_reducible assumption | (simp; omega))) (cwV 1 hts gX4_child_X3_has rfl rfl rfl (by decide +kernel) ⟨Nat.le_of_ble_eq_true rfl, Nat.le_of_ble_eq_true rfl⟩) (preRV (q := (RX3, TX3, 11)) (ci := 2) hK hPc rfl rfl) rfl rfl hl.1 rfl (lv_room (Nat.le_of_ble_eq_true rfl)) dX4_child_5 ⟨Nat.zero_le _, Nat.zero_le _⟩) ?_
  refine w_ifneB (tgt := 14) hx hb dX4_child_8 (by decide) (fun c_1 => ?_) (fun c_1 => ?_)
  · skip
    obtain ⟨k, hk, rfl⟩ := inR_of c_1
    refine lv_iload_n hx hb dX4_child_14 rfl (lv_at hl 2 rfl) ?_
    by_cases w_2 : w = nI 0
    · skip
      refine lv_tableIn (tgt := 56) hx hb dX4_child_15 (by rw [w_2]; decide) (by rw [w_2]; decide) (by rw [w_2]; rfl) (by decide) ?_
      refine lv_aload_n hx hb dX4_child_56 rfl (lv_at hl 0 rfl) ?_
      refine va_get (D := (dC, dI)) (ci := 3) (v := .ref q0) (C := RX4) (T := TX4) (N := 6) hx hb hts inX4 hown hK hP 0 rfl rfl 1 (by decide) lf19 (fun _ h9 => h9) rfl dX4_child_57 ?_
      refine va_get (D := (dC, dI)) (ci := 2) (v := .ref q1) (C := RX3) (T := TX3) (N := 11) hx hb hts inX3 hown hK hP 1 rfl rfl 0 (by decide) lf67 (fun _ h9 => h9) rfl dX4_child_60 ?_
      refine lv_iload_n hx hb dX4_child_63 rfl (lv_at hl 1 rfl) ?_
      refine w_iald (k := k) hx hb hK hP 2 0 rfl rfl (by omega) (by decide) dX4_child_64 ?_
      exact retRi hx hb hr hlocks (by unfold chF; rw [if_pos (inR_nI hk (by omega)), ix_nI (show k < 2147483648 by omega)]; rw [w_2]; rfl) dX4_child_65
    by_cases w_3 : w = nI 1
    · skip
      refine lv_tableIn (tgt := 66) hx hb dX4_child_15 (by rw [w_3]; decide) (by rw [w_3]; decide) (by rw [w_3]; rfl) (by decide) ?_
      refine lv_aload_n hx hb dX4_child_66 rfl (lv_at hl 0 rfl) ?_
      refine va_get (D := (dC, dI)) (ci := 3) (v := .ref q0) (C := RX4) (T := TX4) (N := 6) hx hb hts inX4 hown hK hP 0 rfl rfl 1 (by decide) lf19 (fun _ h9 => h9) rfl dX4_child_67 ?_
      refine va_get (D := (dC, dI)) (ci := 2) (v := .ref q2) (C := RX3) (T := TX3) (N := 11) hx hb hts inX3 hown hK hP 1 rfl rfl 1 (by decide) lf71 (fun _ h9 => h9) rfl dX4_child_70 ?_
      refine lv_iload_n hx hb dX4_child_73 rfl (lv_at hl 1 rfl) ?_
      refine w_iald (k := k) hx hb hK hP 3 0 rfl rfl (by omega) (by decide) dX4_child_74 ?_
      exact retRi hx hb hr hlocks (by unfold chF; rw [if_pos (inR_nI hk (by omega)), ix_nI (show k < 2147483648 by omega)]; rw [w_3]; rfl) dX4_child_75
    by_cases w_4 : w = nI 2
    · skip
      refine lv_tableIn (tgt := 76) hx hb dX4_child_15 (by rw [w_4]; decide) (by rw [w_4]; decide) (by rw [w_4]; rfl) (by decide) ?_
      refine lv_aload_n hx hb dX4_child_76 rfl (lv_at hl 0 rfl) ?_
      refine va_get (D := (dC, dI)) (ci := 3) (v := .ref q0) (C := RX4) (T := TX4) (N := 6) hx hb hts inX4 hown hK hP 0 rfl rfl 1 (by decide) lf19 (fun _ h9 => h9) rfl dX4_child_77 ?_
      refine va_get (D := (dC, dI)) (ci := 2) (v := .ref q3) (C := RX3) (T := TX3) (N := 11) hx hb hts inX3 hown hK hP 1 rfl rfl 2 (by decide) lf74 (fun _ h9 => h9) rfl dX4_child_80 ?_
      refine lv_iload_n hx hb dX4_child_83 rfl (lv_at hl 1 rfl) ?_
      refine w_iald (k := k) hx hb hK hP 4 0 rfl rfl (by omega) (by decide) dX4_child_84 ?_
      exact retRi hx hb hr hlocks (by unfold chF; rw [if_pos (inR_nI hk (by omega)), ix_nI (show k < 2147483648 by omega)]; rw [w_4]; rfl) dX4_child_85
    by_cases w_5 : w = nI 3
    · skip
      refine lv_tableIn (tgt := 86) hx hb dX4_child_15 (by rw [w_5]; decide) (by rw [w_5]; decide) (by rw [w_5]; rfl) (by decide) ?_
      refine lv_aload_n hx hb dX4_child_86 rfl (lv_at hl 0 rfl) ?_
      refine va_get (D := (dC, dI)) (ci := 3) (v := .ref q0) (C := RX4) (T := TX4) (N := 6) hx hb hts inX4 hown hK hP 0 rfl rfl 1 (by decide) lf19 (fun _ h9 => h9) rfl dX4_child_87 ?_
      refine va_get (D := (dC, dI)) (ci := 2) (v := .ref q4) (C := RX3) (T := TX3) (N := 11) hx hb hts inX3 hown hK hP 1 rfl rfl 3 (by decide) lf77 (fun _ h9 => h9) rfl dX4_child_90 ?_
      refine lv_iload_n hx hb dX4_child_93 rfl (lv_at hl 1 rfl) ?_
      refine w_zald (k := k) hx hb hK hP 5 1 rfl rfl (by omega) (by decide) dX4_child_94 ?_
      refine lv_if_eq (tgt := 102) hx hb dX4_child_95 (by decide) (fun c_6 => ?_) (fun c_6 => ?_)
      · skip
        refine lv_iconst (v := nI 0) hx hb dX4_child_102 (by decide) ?_
        exact retRi hx hb hr hlocks (by unfold chF; rw [if_pos (inR_nI hk (by omega)), ix_nI (show k < 2147483648 by omega)]; rw [w_5]; first | exact (if_pos c_6).symm | exact (if_neg c_6).symm) dX4_child_103
      · skip
        refine lv_iconst (v := nI 1) hx hb dX4_child_98 (by decide) ?_
        refine lv_goto (tgt := 103) hx hb dX4_child_99 (by decide) ?_
        exact retRi hx hb hr hlocks (by unfold chF; rw [if_pos (inR_nI hk (by omega)), ix_nI (show k < 2147483648 by omega)]; rw [w_5]; first | exact (if_pos c_6).symm | exact (if_neg c_6).symm) dX4_child_103
    by_cases w_7 : w = nI 4
    · skip
      refine lv_tableIn (tgt := 104) hx hb dX4_child_15 (by rw [w_7]; decide) (by rw [w_7]; decide) (by rw [w_7]; rfl) (by decide) ?_
      refine lv_aload_n hx hb dX4_child_104 rfl (lv_at hl 0 rfl) ?_
      refine va_get (D := (dC, dI)) (ci := 3) (v := .ref q0) (C := RX4) (T := TX4) (N := 6) hx hb hts inX4 hown hK hP 0 rfl rfl 1 (by decide) lf19 (fun _ h9 => h9) rfl dX4_child_105 ?_
      refine lv_iload_n hx hb dX4_child_108 rfl (lv_at hl 1 rfl) ?_
      have hPc := hP.sub (ws' := [(q0, .inr (2, [.ref q1, .ref q2, .ref q3, .ref q4, .ref q5, .ref q6, .ref q7, .int (nI n), .int (nI h), .int (th), .int (tt)])), (q1, .inl (cI, 6, .inl (fk))), (q2, .inl (cI, 6, .inl (fs))), (q3, .inl (cI, 6, .inl (fn))), (q4, .inl (cZ, 6, .inl (fi))), (q5, .inl (cI, 8, .inl (fc))), (q6, .inl (cI, 8, .inl (fw))), (q7, .inl (cI, 8, .inl (ft)))]) [1, 2, 3, 4, 5, 6, 7, 8] rfl
      refine callRi (v := (wt fk fs fn fi k)) (W.runV (As := [.int (nI k)]) (rest := []) ⟨hx, hb, hml, hown, hts⟩ (k_X3_taughtNowBy l dC dI cI cZ q0 q1 q2 q3 q4 q5 q6 q7 (fk) (fs) (fn) (fi) (fc) (fw) (ft) (n) (h) (th) (tt) (k) (by first | omega | with_reducible assumption | (simp; omega))) (cwV 1 hts gX4_child_X3_taughtNowBy rfl rfl rfl (by decide +kernel) ⟨Nat.le_of_ble_eq_true rfl, Nat.le_of_ble_eq_true rfl⟩) (preRV (q := (RX3, TX3, 11)) (ci := 2) hK hPc rfl rfl) rfl rfl hl.1 rfl (lv_room (Nat.le_of_ble_eq_true rfl)) dX4_child_109 ⟨Nat.zero_le _, Nat.zero_le _⟩) ?_
      exact retRi hx hb hr hlocks (by unfold chF; rw [if_pos (inR_nI hk (by omega)), ix_nI (show k < 2147483648 by omega)]; rw [w_7]; rfl) dX4_child_112
    by_cases w_8 : w = nI 5
    · skip
      refine lv_tableIn (tgt := 113) hx hb dX4_child_15 (by rw [w_8]; decide) (by rw [w_8]; decide) (by rw [w_8]; rfl) (by decide) ?_
      refine lv_aload_n hx hb dX4_child_113 rfl (lv_at hl 0 rfl) ?_
      refine va_get (D := (dC, dI)) (ci := 3) (v := .ref q0) (C := RX4) (T := TX4) (N := 6) hx hb hts inX4 hown hK hP 0 rfl rfl 1 (by decide) lf19 (fun _ h9 => h9) rfl dX4_child_114 ?_
      refine lv_iload_n hx hb dX4_child_117 rfl (lv_at hl 1 rfl) ?_
      have hPc := hP.sub (ws' := [(q0, .inr (2, [.ref q1, .ref q2, .ref q3, .ref q4, .ref q5, .ref q6, .ref q7, .int (nI n), .int (nI h), .int (th), .int (tt)])), (q1, .inl (cI, 6, .inl (fk))), (q2, .inl (cI, 6, .inl (fs))), (q3, .inl (cI, 6, .inl (fn))), (q4, .inl (cZ, 6, .inl (fi))), (q5, .inl (cI, 8, .inl (fc))), (q6, .inl (cI, 8, .inl (fw))), (q7, .inl (cI, 8, .inl (ft)))]) [1, 2, 3, 4, 5, 6, 7, 8] rfl
      refine callRi (v := (slF fc fw ft (fk k) (nI k) h 10)) (W.runV (As := [.int (nI k)]) (rest := []) ⟨hx, hb, hml, hown, hts⟩ (k_X3_possibleSlips l dC dI cI cZ q0 q1 q2 q3 q4 q5 q6 q7 (fk) (fs) (fn) (fi) (fc) (fw) (ft) (n) (h) (th) (tt) (k) (by first | omega | with_reducible assumption | (simp; omega)) (by first | omega | with_reducible assumption | (simp; omega))) (cwV 1 hts gX4_child_X3_possibleSlips rfl rfl rfl (by decide +kernel) ⟨Nat.le_of_ble_eq_true rfl, Nat.le_of_ble_eq_true rfl⟩) (preRV (q := (RX3, TX3, 11)) (ci := 2) hK hPc rfl rfl) rfl rfl hl.1 rfl (lv_room (Nat.le_of_ble_eq_true rfl)) dX4_child_118 ⟨Nat.zero_le _, Nat.zero_le _⟩) ?_
      exact retRi hx hb hr hlocks (by unfold chF; rw [if_pos (inR_nI hk (by omega)), ix_nI (show k < 2147483648 by omega)]; rw [w_8]; rfl) dX4_child_121
    by_cases w_9 : w = nI 6
    · skip
      refine lv_tableIn (tgt := 122) hx hb dX4_child_15 (by rw [w_9]; decide) (by rw [w_9]; decide) (by rw [w_9]; rfl) (by decide) ?_
      refine lv_aload_n hx hb dX4_child_122 rfl (lv_at hl 0 rfl) ?_
      refine va_get (D := (dC, dI)) (ci := 3) (v := .ref q0) (C := RX4) (T := TX4) (N := 6) hx hb hts inX4 hown hK hP 0 rfl rfl 1 (by decide) lf19 (fun _ h9 => h9) rfl dX4_child_123 ?_
      refine lv_iload_n hx hb dX4_child_126 rfl (lv_at hl 1 rfl) ?_
      have hPc := hP.sub (ws' := [(q0, .inr (2, [.ref q1, .ref q2, .ref q3, .ref q4, .ref q5, .ref q6, .ref q7, .int (nI n), .int (nI h), .int (th), .int (tt)])), (q1, .inl (cI, 6, .inl (fk))), (q2, .inl (cI, 6, .inl (fs))), (q3, .inl (cI, 6, .inl (fn))), (q4, .inl (cZ, 6, .inl (fi))), (q5, .inl (cI, 8, .inl (fc))), (q6, .inl (cI, 8, .inl (fw))), (q7, .inl (cI, 8, .inl (ft)))]) [1, 2, 3, 4, 5, 6, 7, 8] rfl
      refine callRi (v := (bqA (slF fc fw ft (fk k) (nI k) h 10) (bqF (fun r => wlF (slF fc fw ft (fk k) (nI k) h 10) (fk k) (nI r) 10 12) 12).1)) (W.runV (As := [.int (nI k)]) (rest := []) ⟨hx, hb, hml, hown, hts⟩ (k_X3_bestQuestion l dC dI cI cZ q0 q1 q2 q3 q4 q5 q6 q7 (fk) (fs) (fn) (fi) (fc) (fw) (ft) (n) (h) (th) (tt) (k) (by first | omega | with_reducible assumption | (simp; omega)) (by first | omega | with_reducible assumption | (simp; omega))) (cwV 1 hts gX4_child_X3_bestQuestion rfl rfl rfl (by decide +kernel) ⟨Nat.le_of_ble_eq_true rfl, Nat.le_of_ble_eq_true rfl⟩) (preRV (q := (RX3, TX3, 11)) (ci := 2) hK hPc rfl rfl) rfl rfl hl.1 rfl (lv_room (Nat.le_of_ble_eq_true rfl)) dX4_child_127 ⟨Nat.zero_le _, Nat.zero_le _⟩) ?_
      exact retRi hx hb hr hlocks (by unfold chF; rw [if_pos (inR_nI hk (by omega)), ix_nI (show k < 2147483648 by omega)]; rw [w_9]; rfl) dX4_child_130
    have hsw : ¬ w = nI 0 ∧ ¬ w = nI 1 ∧ ¬ w = nI 2 ∧ ¬ w = nI 3 ∧ ¬ w = nI 4 ∧ ¬ w = nI 5 ∧ ¬ w = nI 6 := ⟨w_2, w_3, w_4, w_5, w_7, w_8, w_9⟩
    refine lv_tableOut (tgt := 131) hx hb dX4_child_15 (by have z0 := w_tne (k := 0) (by decide) (hsw.1); have z1 := w_tne (k := 1) (by decide) (hsw.2.1); have z2 := w_tne (k := 2) (by decide) (hsw.2.2.1); have z3 := w_tne (k := 3) (by decide) (hsw.2.2.2.1); have z4 := w_tne (k := 4) (by decide) (hsw.2.2.2.2.1); have z5 := w_tne (k := 5) (by decide) (hsw.2.2.2.2.2.1); have z6 := w_tne (k := 6) (by decide) (hsw.2.2.2.2.2.2); omega) (by decide) ?_
    refine lv_bipush (v := -102) hx hb dX4_child_131 (by decide) ?_
    exact retRi hx hb hr hlocks (by unfold chF; rw [if_pos (inR_nI hk (by omega)), ix_nI (show k < 2147483648 by omega)]; simp [hn6, hh8, c_1, hk, w_2, w_3, w_4, w_5, w_7, w_8, w_9]) dX4_child_133
  · skip
    refine lv_bipush (v := -101) hx hb dX4_child_11 (by decide) ?_
    exact retRi hx hb hr hlocks (by unfold chF; rw [if_neg c_1]) dX4_child_13
