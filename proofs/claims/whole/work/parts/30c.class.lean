set_option maxHeartbeats 4000000 in
set_option maxRecDepth 100000 in
theorem k_X4_count (l : Launch) (dC : Nat → ClassId) (dI : Nat → Nat → Nat) (cI cZ : ClassId) (t0 g0 q0 kq0 tq0 w0 q1 q2 q3 q4 q5 q6 q7 g1 : Nat) (fk fs fn fi fc fw ft pg : Nat → Int32) (n h pn : Nat) (sr th tt : Int32) (w : Int32) (hn6 : n ≤ 6) (hh8 : h ≤ 8) (hp : pn ≤ 20) : Met l yX4_count wsX4_count ({ frames := 3, cells := 0, slots := 0, locals := 70 }) (va_Pc [.ref t0, .int (w)] (PR (dC, dI) cI cZ [(t0, .inr (3, [.ref g0, .ref q0, .ref kq0, .ref tq0, .ref w0, .int (sr)])), (q0, .inr (2, [.ref q1, .ref q2, .ref q3, .ref q4, .ref q5, .ref q6, .ref q7, .int (nI n), .int (nI h), .int (th), .int (tt)])), (q1, .inl (cI, 6, .inl (fk))), (q2, .inl (cI, 6, .inl (fs))), (q3, .inl (cI, 6, .inl (fn))), (q4, .inl (cZ, 6, .inl (fi))), (q5, .inl (cI, 8, .inl (fc))), (q6, .inl (cI, 8, .inl (fw))), (q7, .inl (cI, 8, .inl (ft))), (g0, .inr (1, [.ref g1, .int (nI pn)])), (g1, .inl (cI, 20, .inl (pg)))])) (QRi ((ctF n h th tt sr pn fn fi fk fs (bcx (ulF fn n)) w))) 0 0 noF := by
  refine Met.ofW (cc := cX4_count) (maxL := 2) (ret := (some .int)) (by decide) rfl ?_
  intro p e s m args below meth co s₁ B hml hv
  obtain ⟨rfl, hP, hK⟩ := hv
  have hx := B.exec
  have hb := B.bytes
  have hr := B.returns
  have hts := atoms_spec (ws := wsX4_count) B.pre
  have hown : s.vm.findClass RX4 = some m.cls := findClass_of_methodNamed B.named
  have hlocks := B.notSynchronized
  have inX2 : ∀ w ∈ u_ws RX2 TX2 2, w ∈ wsX4_count := by decide +kernel
  have inX3 : ∀ w ∈ u_ws RX3 TX3 11, w ∈ wsX4_count := by decide +kernel
  have inX4 : ∀ w ∈ u_ws RX4 TX4 6, w ∈ wsX4_count := by decide +kernel
  have lf10 := hts (.fieldLink RX4 10 "ThursdayRungs" "page" "LThursdayRungs$Page;") (by decide +kernel)
  have lf136 := hts (.fieldLink RX4 136 "ThursdayRungs$School" "heard" "I") (by decide +kernel)
  have lf157 := hts (.fieldLink RX4 157 "ThursdayRungs$School" "thursdays" "I") (by decide +kernel)
  have lf169 := hts (.fieldLink RX4 169 "ThursdayRungs$School" "timesTaught" "I") (by decide +kernel)
  have lf19 := hts (.fieldLink RX4 19 "ThursdayRungs" "school" "LThursdayRungs$School;") (by decide +kernel)
  have lf36 := hts (.fieldLink RX4 36 "ThursdayRungs" "schoolsRead" "I") (by decide +kernel)
  have lf48 := hts (.fieldLink RX4 48 "ThursdayRungs$Page" "size" "I") (by decide +kernel)
  have lf62 := hts (.fieldLink RX4 62 "ThursdayRungs$School" "size" "I") (by decide +kernel)
  have hl := lv_entry ([.ref t0, .int (w)]) (n := 2) (Nat.le_of_ble_eq_true rfl)
  rw [lg_entry_eq]
  generalize (lg_sl ([.ref t0, .int (w)]) ++ List.replicate (2 - (lg_sl ([.ref t0, .int (w)])).length) Slot.unset).toArray = ls at hl ⊢
  have hl : lv_has ls 2 [(0, .ref t0), (1, .int (w))] := hl
  refine lv_iload_n hx hb dX4_count_0 rfl (lv_at hl 1 rfl) ?_
  by_cases w_1 : w = nI 0
  · skip
    refine lv_tableIn (tgt := 56) hx hb dX4_count_1 (by rw [w_1]; decide) (by rw [w_1]; decide) (by rw [w_1]; rfl) (by decide) ?_
    refine lv_aload_n hx hb dX4_count_56 rfl (lv_at hl 0 rfl) ?_
    refine va_get (D := (dC, dI)) (ci := 3) (v := .ref q0) (C := RX4) (T := TX4) (N := 6) hx hb hts inX4 hown hK hP 0 rfl rfl 1 (by decide) lf19 (fun _ h9 => h9) rfl dX4_count_57 ?_
    refine va_get (D := (dC, dI)) (ci := 2) (v := .int (nI n)) (C := RX3) (T := TX3) (N := 11) hx hb hts inX3 hown hK hP 1 rfl rfl 7 (by decide) lf62 (fun _ h9 => h9) rfl dX4_count_60 ?_
    exact retRi hx hb hr hlocks (by first | (rw [w_1]; rfl) | (rw [hp]; first | exact (if_pos w_1).symm | exact (if_neg w_1).symm) | (unfold ctF; simp [hn6, hh8, hp, w_1])) dX4_count_63
  by_cases w_2 : w = nI 1
  · skip
    refine lv_tableIn (tgt := 64) hx hb dX4_count_1 (by rw [w_2]; decide) (by rw [w_2]; decide) (by rw [w_2]; rfl) (by decide) ?_
    refine lv_aload_n hx hb dX4_count_64 rfl (lv_at hl 0 rfl) ?_
    refine va_get (D := (dC, dI)) (ci := 3) (v := .ref q0) (C := RX4) (T := TX4) (N := 6) hx hb hts inX4 hown hK hP 0 rfl rfl 1 (by decide) lf19 (fun _ h9 => h9) rfl dX4_count_65 ?_
    have hPc := hP.sub (ws' := [(q0, .inr (2, [.ref q1, .ref q2, .ref q3, .ref q4, .ref q5, .ref q6, .ref q7, .int (nI n), .int (nI h), .int (th), .int (tt)])), (q1, .inl (cI, 6, .inl (fk))), (q2, .inl (cI, 6, .inl (fs))), (q3, .inl (cI, 6, .inl (fn))), (q4, .inl (cZ, 6, .inl (fi))), (q5, .inl (cI, 8, .inl (fc))), (q6, .inl (cI, 8, .inl (fw))), (q7, .inl (cI, 8, .inl (ft)))]) [1, 2, 3, 4, 5, 6, 7, 8] rfl
    refine callRi (v := nI (kwF fn n)) (W.runV (As := []) (rest := []) ⟨hx, hb, hml, hown, hts⟩ (k_X3_knowing l dC dI cI cZ q0 q1 q2 q3 q4 q5 q6 q7 (fk) (fs) (fn) (fi) (fc) (fw) (ft) (n) (h) (th) (tt) (by first | omega | with_reducible assumption | (simp; omega))) (cwV 0 hts gX4_count_X3_knowing rfl rfl rfl (by decide +kernel) ⟨Nat.le_of_ble_eq_true rfl, Nat.le_of_ble_eq_true rfl⟩) (preRV (q := (RX3, TX3, 11)) (ci := 2) hK hPc rfl rfl) rfl rfl hl.1 rfl (lv_room (Nat.le_of_ble_eq_true rfl)) dX4_count_68 ⟨Nat.zero_le _, Nat.zero_le _⟩) ?_
    exact retRi hx hb hr hlocks (by first | (rw [w_2]; rfl) | (rw [hp]; first | exact (if_pos w_2).symm | exact (if_neg w_2).symm) | (unfold ctF; simp [hn6, hh8, hp, w_2])) dX4_count_71
  by_cases w_3 : w = nI 2
  · skip
    refine lv_tableIn (tgt := 72) hx hb dX4_count_1 (by rw [w_3]; decide) (by rw [w_3]; decide) (by rw [w_3]; rfl) (by decide) ?_
    refine lv_aload_n hx hb dX4_count_72 rfl (lv_at hl 0 rfl) ?_
    refine va_get (D := (dC, dI)) (ci := 3) (v := .ref q0) (C := RX4) (T := TX4) (N := 6) hx hb hts inX4 hown hK hP 0 rfl rfl 1 (by decide) lf19 (fun _ h9 => h9) rfl dX4_count_73 ?_
    have hPc := hP.sub (ws' := [(q0, .inr (2, [.ref q1, .ref q2, .ref q3, .ref q4, .ref q5, .ref q6, .ref q7, .int (nI n), .int (nI h), .int (th), .int (tt)])), (q1, .inl (cI, 6, .inl (fk))), (q2, .inl (cI, 6, .inl (fs))), (q3, .inl (cI, 6, .inl (fn))), (q4, .inl (cZ, 6, .inl (fi))), (q5, .inl (cI, 8, .inl (fc))), (q6, .inl (cI, 8, .inl (fw))), (q7, .inl (cI, 8, .inl (ft)))]) [1, 2, 3, 4, 5, 6, 7, 8] rfl
    refine callRi (v := (bcx (ulF fn n))) (W.runV (As := []) (rest := []) ⟨hx, hb, hml, hown, hts⟩ (k_X3_unlikeRules l dC dI cI cZ q0 q1 q2 q3 q4 q5 q6 q7 (fk) (fs) (fn) (fi) (fc) (fw) (ft) (n) (h) (th) (tt) (by first | omega | with_reducible assumption | (simp; omega))) (cwV 0 hts gX4_count_X3_unlikeRules rfl rfl rfl (by decide +kernel) ⟨Nat.le_of_ble_eq_true rfl, Nat.le_of_ble_eq_true rfl⟩) (preRV (q := (RX3, TX3, 11)) (ci := 2) hK hPc rfl rfl) rfl rfl hl.1 rfl (lv_room (Nat.le_of_ble_eq_true rfl)) dX4_count_76 ⟨Nat.zero_le _, Nat.zero_le _⟩) ?_
    exact retRi hx hb hr hlocks (by first | (rw [w_3]; rfl) | (rw [hp]; first | exact (if_pos w_3).symm | exact (if_neg w_3).symm) | (unfold ctF; simp [hn6, hh8, hp, w_3])) dX4_count_79
  by_cases w_4 : w = nI 3
  · skip
    refine lv_tableIn (tgt := 80) hx hb dX4_count_1 (by rw [w_4]; decide) (by rw [w_4]; decide) (by rw [w_4]; rfl) (by decide) ?_
    refine lv_aload_n hx hb dX4_count_80 rfl (lv_at hl 0 rfl) ?_
    refine va_get (D := (dC, dI)) (ci := 3) (v := .ref q0) (C := RX4) (T := TX4) (N := 6) hx hb hts inX4 hown hK hP 0 rfl rfl 1 (by decide) lf19 (fun _ h9 => h9) rfl dX4_count_81 ?_
    have hPc := hP.sub (ws' := [(q0, .inr (2, [.ref q1, .ref q2, .ref q3, .ref q4, .ref q5, .ref q6, .ref q7, .int (nI n), .int (nI h), .int (th), .int (tt)])), (q1, .inl (cI, 6, .inl (fk))), (q2, .inl (cI, 6, .inl (fs))), (q3, .inl (cI, 6, .inl (fn))), (q4, .inl (cZ, 6, .inl (fi))), (q5, .inl (cI, 8, .inl (fc))), (q6, .inl (cI, 8, .inl (fw))), (q7, .inl (cI, 8, .inl (ft)))]) [1, 2, 3, 4, 5, 6, 7, 8] rfl
    refine callRi (v := nI (ioF fi n)) (W.runV (As := []) (rest := []) ⟨hx, hb, hml, hown, hts⟩ (k_X3_illOnes l dC dI cI cZ q0 q1 q2 q3 q4 q5 q6 q7 (fk) (fs) (fn) (fi) (fc) (fw) (ft) (n) (h) (th) (tt) (by first | omega | with_reducible assumption | (simp; omega))) (cwV 0 hts gX4_count_X3_illOnes rfl rfl rfl (by decide +kernel) ⟨Nat.le_of_ble_eq_true rfl, Nat.le_of_ble_eq_true rfl⟩) (preRV (q := (RX3, TX3, 11)) (ci := 2) hK hPc rfl rfl) rfl rfl hl.1 rfl (lv_room (Nat.le_of_ble_eq_true rfl)) dX4_count_84 ⟨Nat.zero_le _, Nat.zero_le _⟩) ?_
    exact retRi hx hb hr hlocks (by first | (rw [w_4]; rfl) | (rw [hp]; first | exact (if_pos w_4).symm | exact (if_neg w_4).symm) | (unfold ctF; simp [hn6, hh8, hp, w_4])) dX4_count_87
  by_cases w_5 : w = nI 4
  · skip
    refine lv_tableIn (tgt := 88) hx hb dX4_count_1 (by rw [w_5]; decide) (by rw [w_5]; decide) (by rw [w_5]; rfl) (by decide) ?_
    refine lv_aload_n hx hb dX4_count_88 rfl (lv_at hl 0 rfl) ?_
    refine va_get (D := (dC, dI)) (ci := 3) (v := .ref q0) (C := RX4) (T := TX4) (N := 6) hx hb hts inX4 hown hK hP 0 rfl rfl 1 (by decide) lf19 (fun _ h9 => h9) rfl dX4_count_89 ?_
    refine va_get (D := (dC, dI)) (ci := 2) (v := .int (th)) (C := RX3) (T := TX3) (N := 11) hx hb hts inX3 hown hK hP 1 rfl rfl 9 (by decide) lf157 (fun _ h9 => h9) rfl dX4_count_92 ?_
    exact retRi hx hb hr hlocks (by first | (rw [w_5]; rfl) | (rw [hp]; first | exact (if_pos w_5).symm | exact (if_neg w_5).symm) | (unfold ctF; simp [hn6, hh8, hp, w_5])) dX4_count_95
  by_cases w_6 : w = nI 5
  · skip
    refine lv_tableIn (tgt := 96) hx hb dX4_count_1 (by rw [w_6]; decide) (by rw [w_6]; decide) (by rw [w_6]; rfl) (by decide) ?_
    refine lv_aload_n hx hb dX4_count_96 rfl (lv_at hl 0 rfl) ?_
    refine va_get (D := (dC, dI)) (ci := 3) (v := .ref q0) (C := RX4) (T := TX4) (N := 6) hx hb hts inX4 hown hK hP 0 rfl rfl 1 (by decide) lf19 (fun _ h9 => h9) rfl dX4_count_97 ?_
    refine va_get (D := (dC, dI)) (ci := 2) (v := .int (tt)) (C := RX3) (T := TX3) (N := 11) hx hb hts inX3 hown hK hP 1 rfl rfl 10 (by decide) lf169 (fun _ h9 => h9) rfl dX4_count_100 ?_
    exact retRi hx hb hr hlocks (by first | (rw [w_6]; rfl) | (rw [hp]; first | exact (if_pos w_6).symm | exact (if_neg w_6).symm) | (unfold ctF; simp [hn6, hh8, hp, w_6])) dX4_count_103
  by_cases w_7 : w = nI 6
  · skip
    refine lv_tableIn (tgt := 104) hx hb dX4_count_1 (by rw [w_7]; decide) (by rw [w_7]; decide) (by rw [w_7]; rfl) (by decide) ?_
    refine lv_aload_n hx hb dX4_count_104 rfl (lv_at hl 0 rfl) ?_
    refine va_get (D := (dC, dI)) (ci := 3) (v := .ref q0) (C := RX4) (T := TX4) (N := 6) hx hb hts inX4 hown hK hP 0 rfl rfl 1 (by decide) lf19 (fun _ h9 => h9) rfl dX4_count_105 ?_
    have hPc := hP.sub (ws' := [(q0, .inr (2, [.ref q1, .ref q2, .ref q3, .ref q4, .ref q5, .ref q6, .ref q7, .int (nI n), .int (nI h), .int (th), .int (tt)])), (q1, .inl (cI, 6, .inl (fk))), (q2, .inl (cI, 6, .inl (fs))), (q3, .inl (cI, 6, .inl (fn))), (q4, .inl (cZ, 6, .inl (fi))), (q5, .inl (cI, 8, .inl (fc))), (q6, .inl (cI, 8, .inl (fw))), (q7, .inl (cI, 8, .inl (ft)))]) [1, 2, 3, 4, 5, 6, 7, 8] rfl
    refine callRi (v := (if (n = 0) then nI 1 else nI 0)) (W.runV (As := []) (rest := []) ⟨hx, hb, hml, hown, hts⟩ (k_X3_isNone l dC dI cI cZ q0 q1 q2 q3 q4 q5 q6 q7 (fk) (fs) (fn) (fi) (fc) (fw) (ft) (n) (h) (th) (tt) (by first | omega | with_reducible assumption | (simp; omega))) (cwV 0 hts gX4_count_X3_isNone rfl rfl rfl (by decide +kernel) ⟨Nat.le_of_ble_eq_true rfl, Nat.le_of_ble_eq_true rfl⟩) (preRV (q := (RX3, TX3, 11)) (ci := 2) hK hPc rfl rfl) rfl rfl hl.1 rfl (lv_room (Nat.le_of_ble_eq_true rfl)) dX4_count_108 ⟨Nat.zero_le _, Nat.zero_le _⟩) ?_
    refine w_ifeqB (tgt := 118) hx hb dX4_count_111 (by decide) (fun c_8 => ?_) (fun c_8 => ?_)
    · skip
      refine lv_aload_n hx hb dX4_count_118 rfl (lv_at hl 0 rfl) ?_
      refine va_get (D := (dC, dI)) (ci := 3) (v := .ref q0) (C := RX4) (T := TX4) (N := 6) hx hb hts inX4 hown hK hP 0 rfl rfl 1 (by decide) lf19 (fun _ h9 => h9) rfl dX4_count_119 ?_
      refine lv_iconst (v := -1) hx hb dX4_count_122 (by decide) ?_
      have hPc := hP.sub (ws' := [(q0, .inr (2, [.ref q1, .ref q2, .ref q3, .ref q4, .ref q5, .ref q6, .ref q7, .int (nI n), .int (nI h), .int (th), .int (tt)])), (q1, .inl (cI, 6, .inl (fk))), (q2, .inl (cI, 6, .inl (fs))), (q3, .inl (cI, 6, .inl (fn))), (q4, .inl (cZ, 6, .inl (fi))), (q5, .inl (cI, 8, .inl (fc))), (q6, .inl (cI, 8, .inl (fw))), (q7, .inl (cI, 8, .inl (ft)))]) [1, 2, 3, 4, 5, 6, 7, 8] rfl
      refine callRi (v := nI (ucF fk (cuF fs (-1)) n)) (W.runV (As := [.int ((-1))]) (rest := []) ⟨hx, hb, hml, hown, hts⟩ (k_X3_unchangedAtTop l dC dI cI cZ q0 q1 q2 q3 q4 q5 q6 q7 (fk) (fs) (fn) (fi) (fc) (fw) (ft) (n) (h) (th) (tt) ((-1)) (by first | omega | with_reducible assumption | (simp; omega)) (by first | omega | with_reducible assumption | (simp; omega))) (cwV 1 hts gX4_count_X3_unchangedAtTop rfl rfl rfl (by decide +kernel) ⟨Nat.le_of_ble_eq_true rfl, Nat.le_of_ble_eq_true rfl⟩) (preRV (q := (RX3, TX3, 11)) (ci := 2) hK hPc rfl rfl) rfl rfl hl.1 rfl (lv_room (Nat.le_of_ble_eq_true rfl)) dX4_count_123 ⟨Nat.zero_le _, Nat.zero_le _⟩) ?_
      rw [show (nI (ucF fk (cuF fs (-1)) n) : Int32) = nI (ucF fk fs n) from congrArg nI (ucF_no hn6)]
      exact retRi hx hb hr hlocks (by first | (rw [c_8]; rfl) | (rw [w_7]; first | exact (if_pos c_8).symm | exact (if_neg c_8).symm) | (unfold ctF; simp [hn6, hh8, hp, w_7, c_8])) dX4_count_126
    · skip
      refine lv_iconst (v := nI 0) hx hb dX4_count_114 (by decide) ?_
      refine lv_goto (tgt := 126) hx hb dX4_count_115 (by decide) ?_
      exact retRi hx hb hr hlocks (by first | (rw [c_8]; rfl) | (rw [w_7]; first | exact (if_pos c_8).symm | exact (if_neg c_8).symm) | (unfold ctF; simp [hn6, hh8, hp, w_7, c_8])) dX4_count_126
  by_cases w_10 : w = nI 7
  · skip
    refine lv_tableIn (tgt := 127) hx hb dX4_count_1 (by rw [w_10]; decide) (by rw [w_10]; decide) (by rw [w_10]; rfl) (by decide) ?_
    refine lv_aload_n hx hb dX4_count_127 rfl (lv_at hl 0 rfl) ?_
    refine va_get (D := (dC, dI)) (ci := 3) (v := .ref q0) (C := RX4) (T := TX4) (N := 6) hx hb hts inX4 hown hK hP 0 rfl rfl 1 (by decide) lf19 (fun _ h9 => h9) rfl dX4_count_128 ?_
    refine va_get (D := (dC, dI)) (ci := 2) (v := .int (nI h)) (C := RX3) (T := TX3) (N := 11) hx hb hts inX3 hown hK hP 1 rfl rfl 8 (by decide) lf136 (fun _ h9 => h9) rfl dX4_count_131 ?_
    exact retRi hx hb hr hlocks (by first | (rw [w_10]; rfl) | (rw [hp]; first | exact (if_pos w_10).symm | exact (if_neg w_10).symm) | (unfold ctF; simp [hn6, hh8, hp, w_10])) dX4_count_134
  by_cases w_11 : w = nI 8
  · skip
    refine lv_tableIn (tgt := 135) hx hb dX4_count_1 (by rw [w_11]; decide) (by rw [w_11]; decide) (by rw [w_11]; rfl) (by decide) ?_
    refine lv_aload_n hx hb dX4_count_135 rfl (lv_at hl 0 rfl) ?_
    refine va_get (D := (dC, dI)) (ci := 3) (v := .ref g0) (C := RX4) (T := TX4) (N := 6) hx hb hts inX4 hown hK hP 0 rfl rfl 0 (by decide) lf10 (fun _ h9 => h9) rfl dX4_count_136 ?_
    refine va_get (D := (dC, dI)) (ci := 1) (v := .int (nI pn)) (C := RX2) (T := TX2) (N := 2) hx hb hts inX2 hown hK hP 9 rfl rfl 1 (by decide) lf48 (fun _ h9 => h9) rfl dX4_count_139 ?_
    exact retRi hx hb hr hlocks (by first | (rw [w_11]; rfl) | (rw [hp]; first | exact (if_pos w_11).symm | exact (if_neg w_11).symm) | (unfold ctF; simp [hn6, hh8, hp, w_11])) dX4_count_142
  by_cases w_12 : w = nI 9
  · skip
    refine lv_tableIn (tgt := 143) hx hb dX4_count_1 (by rw [w_12]; decide) (by rw [w_12]; decide) (by rw [w_12]; rfl) (by decide) ?_
    refine lv_aload_n hx hb dX4_count_143 rfl (lv_at hl 0 rfl) ?_
    refine va_get (D := (dC, dI)) (ci := 3) (v := .int (sr)) (C := RX4) (T := TX4) (N := 6) hx hb hts inX4 hown hK hP 0 rfl rfl 5 (by decide) lf36 (fun _ h9 => h9) rfl dX4_count_144 ?_
    exact retRi hx hb hr hlocks (by first | (rw [w_12]; rfl) | (rw [hp]; first | exact (if_pos w_12).symm | exact (if_neg w_12).symm) | (unfold ctF; simp [hn6, hh8, hp, w_12])) dX4_count_147
  have hsw : ¬ w = nI 0 ∧ ¬ w = nI 1 ∧ ¬ w = nI 2 ∧ ¬ w = nI 3 ∧ ¬ w = nI 4 ∧ ¬ w = nI 5 ∧ ¬ w = nI 6 ∧ ¬ w = nI 7 ∧ ¬ w = nI 8 ∧ ¬ w = nI 9 := ⟨w_1, w_2, w_3, w_4, w_5, w_6, w_7, w_10, w_11, w_12⟩
  refine lv_tableOut (tgt := 148) hx hb dX4_count_1 (by have z0 := w_tne (k := 0) (by decide) (hsw.1); have z1 := w_tne (k := 1) (by decide) (hsw.2.1); have z2 := w_tne (k := 2) (by decide) (hsw.2.2.1); have z3 := w_tne (k := 3) (by decide) (hsw.2.2.2.1); have z4 := w_tne (k := 4) (by decide) (hsw.2.2.2.2.1); have z5 := w_tne (k := 5) (by decide) (hsw.2.2.2.2.2.1); have z6 := w_tne (k := 6) (by decide) (hsw.2.2.2.2.2.2.1); have z7 := w_tne (k := 7) (by decide) (hsw.2.2.2.2.2.2.2.1); have z8 := w_tne (k := 8) (by decide) (hsw.2.2.2.2.2.2.2.2.1); have z9 := w_tne (k := 9) (by decide) (hsw.2.2.2.2.2.2.2.2.2); omega) (by decide) ?_
  refine lv_bipush (v := -102) hx hb dX4_count_148 (by decide) ?_
  exact retRi hx hb hr hlocks (by first | (rw [w_12]; rfl) | (rw [w_11]; first | exact (if_pos w_12).symm | exact (if_neg w_12).symm) | (unfold ctF; simp [hn6, hh8, hp, w_1, w_2, w_3, w_4, w_5, w_6, w_7, w_10, w_11, w_12])) dX4_count_150
