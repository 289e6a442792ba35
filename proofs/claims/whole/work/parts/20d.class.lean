set_option maxHeartbeats 4000000 in
set_option maxRecDepth 100000 in
theorem k_X4_arrives (l : Launch) (dC : Nat → ClassId) (dI : Nat → Nat → Nat) (cI cZ : ClassId) (t0 g0 q0 kq0 tq0 w0 q1 q2 q3 q4 q5 q6 q7 : Nat) (fk fs fn fi fc fw ft : Nat → Int32) (n h : Nat) (sr th tt : Int32) (c : Int32) (r : Int32) (hn6 : n ≤ 6) : Met l yX4_arrives wsX4_arrives ({ frames := 2, cells := 0, slots := 0, locals := 47 }) (va_Pc [.ref t0, .int (c), .int (r)] (PR (dC, dI) cI cZ [(t0, .inr (3, [.ref g0, .ref q0, .ref kq0, .ref tq0, .ref w0, .int (sr)])), (q0, .inr (2, [.ref q1, .ref q2, .ref q3, .ref q4, .ref q5, .ref q6, .ref q7, .int (nI n), .int (nI h), .int (th), .int (tt)])), (q1, .inl (cI, 6, .inl (fk))), (q2, .inl (cI, 6, .inl (fs))), (q3, .inl (cI, 6, .inl (fn))), (q4, .inl (cZ, 6, .inl (fi))), (q5, .inl (cI, 8, .inl (fc))), (q6, .inl (cI, 8, .inl (fw))), (q7, .inl (cI, 8, .inl (ft)))])) (QRi ((gd n c r (atF fk fs (ix c) (n - 1 - ix c) r)))) 0 0 noF := by
  refine Met.ofW (cc := cX4_arrives) (maxL := 4) (ret := (some .int)) (by decide) rfl ?_
  intro p e s m args below meth co s₁ B hml hv
  obtain ⟨rfl, hP, hK⟩ := hv
  have hx := B.exec
  have hb := B.bytes
  have hr := B.returns
  have hts := atoms_spec (ws := wsX4_arrives) B.pre
  have hown : s.vm.findClass RX4 = some m.cls := findClass_of_methodNamed B.named
  have hlocks := B.notSynchronized
  have inX4 : ∀ w ∈ u_ws RX4 TX4 6, w ∈ wsX4_arrives := by decide +kernel
  have lf19 := hts (.fieldLink RX4 19 "ThursdayRungs" "school" "LThursdayRungs$School;") (by decide +kernel)
  have hl := lv_entry ([.ref t0, .int (c), .int (r)]) (n := 4) (Nat.le_of_ble_eq_true rfl)
  rw [lg_entry_eq]
  generalize (lg_sl ([.ref t0, .int (c), .int (r)]) ++ List.replicate (4 - (lg_sl ([.ref t0, .int (c), .int (r)])).length) Slot.unset).toArray = ls at hl ⊢
  have hl : lv_has ls 4 [(0, .ref t0), (1, .int (c)), (2, .int (r))] := hl
  refine lv_aload_n hx hb dX4_arrives_0 rfl (lv_at hl 0 rfl) ?_
  refine lv_iload_n hx hb dX4_arrives_1 rfl (lv_at hl 1 rfl) ?_
  refine lv_iload_n hx hb dX4_arrives_2 rfl (lv_at hl 2 rfl) ?_
  have hPc := hP.sub (ws' := [(t0, .inr (3, [.ref g0, .ref q0, .ref kq0, .ref tq0, .ref w0, .int (sr)])), (q0, .inr (2, [.ref q1, .ref q2, .ref q3, .ref q4, .ref q5, .ref q6, .ref q7, .int (nI n), .int (nI h), .int (th), .int (tt)])), (q1, .inl (cI, 6, .inl (fk))), (q2, .inl (cI, 6, .inl (fs))), (q3, .inl (cI, 6, .inl (fn))), (q4, .inl (cZ, 6, .inl (fi))), (q5, .inl (cI, 8, .inl (fc))), (q6, .inl (cI, 8, .inl (fw))), (q7, .inl (cI, 8, .inl (ft)))]) [0, 1, 2, 3, 4, 5, 6, 7, 8] rfl
  refine callRi (v := (gd n c r (nI 0))) (W.runV (As := [.int (c), .int (r)]) (rest := []) ⟨hx, hb, hml, hown, hts⟩ (k_X4_refusalOf l dC dI cI cZ t0 g0 q0 kq0 tq0 w0 q1 q2 q3 q4 q5 q6 q7 (fk) (fs) (fn) (fi) (fc) (fw) (ft) (n) (h) (sr) (th) (tt) (c) (r) (by first | omega | with_reducible assumption | (simp; omega))) (cwV 2 hts gX4_arrives_X4_refusalOf rfl rfl rfl (by decide +kernel) ⟨Nat.le_of_ble_eq_true rfl, Nat.le_of_ble_eq_true rfl⟩) (preRV (q := (RX4, TX4, 6)) (ci := 3) hK hPc rfl rfl) rfl rfl hl.1 rfl (lv_room (Nat.le_of_ble_eq_true rfl)) dX4_arrives_3 ⟨Nat.zero_le _, Nat.zero_le _⟩) ?_
  refine lv_istore_n (lv' := [(3, .int ((gd n c r (nI 0)))), (0, .ref t0), (1, .int (c)), (2, .int (r))]) hx hb dX4_arrives_6 rfl hl (by decide) rfl (fun ls hl => ?_)
  refine lv_iload_n hx hb dX4_arrives_7 rfl (lv_at hl 0 rfl) ?_
  refine lv_if_eq (tgt := 15) hx hb dX4_arrives_8 (by decide) (fun c_1 => ?_) (fun c_1 => ?_)
  · skip
    obtain ⟨⟨k, hk, rfl⟩, ⟨q, hq, rfl⟩⟩ := gd_ok c_1
    refine lv_aload_n hx hb dX4_arrives_15 rfl (lv_at hl 1 rfl) ?_
    refine va_get (D := (dC, dI)) (ci := 3) (v := .ref q0) (C := RX4) (T := TX4) (N := 6) hx hb hts inX4 hown hK hP 0 rfl rfl 1 (by decide) lf19 (fun _ h9 => h9) rfl dX4_arrives_16 ?_
    refine lv_iload_n hx hb dX4_arrives_19 rfl (lv_at hl 2 rfl) ?_
    refine lv_iload_n hx hb dX4_arrives_20 rfl (lv_at hl 3 rfl) ?_
    refine lv_iconst (v := -1) hx hb dX4_arrives_21 (by decide) ?_
    have hPc := hP.sub (ws' := [(q0, .inr (2, [.ref q1, .ref q2, .ref q3, .ref q4, .ref q5, .ref q6, .ref q7, .int (nI n), .int (nI h), .int (th), .int (tt)])), (q1, .inl (cI, 6, .inl (fk))), (q2, .inl (cI, 6, .inl (fs))), (q3, .inl (cI, 6, .inl (fn))), (q4, .inl (cZ, 6, .inl (fi))), (q5, .inl (cI, 8, .inl (fc))), (q6, .inl (cI, 8, .inl (fw))), (q7, .inl (cI, 8, .inl (ft)))]) [1, 2, 3, 4, 5, 6, 7, 8] rfl
    refine callRi (v := (atF fk (cuF fs (-1)) k (n - 1 - k) (nI q))) (W.runV (As := [.int (nI k), .int (nI q), .int ((-1))]) (rest := []) ⟨hx, hb, hml, hown, hts⟩ (k_X3_atTop l dC dI cI cZ q0 q1 q2 q3 q4 q5 q6 q7 (fk) (fs) (fn) (fi) (fc) (fw) (ft) (n) (h) (th) (tt) (k) (nI q) ((-1)) (by first | omega | with_reducible assumption | (simp; omega)) (by first | omega | with_reducible assumption | (simp; omega)) (by first | omega | with_reducible assumption | (simp; omega))) (cwV 3 hts gX4_arrives_X3_atTop rfl rfl rfl (by decide +kernel) ⟨Nat.le_of_ble_eq_true rfl, Nat.le_of_ble_eq_true rfl⟩) (preRV (q := (RX3, TX3, 11)) (ci := 2) hK hPc rfl rfl) rfl rfl hl.1 rfl (lv_room (Nat.le_of_ble_eq_true rfl)) dX4_arrives_22 ⟨Nat.zero_le _, Nat.zero_le _⟩) ?_
    rw [show ((atF fk (cuF fs (-1)) k (n - 1 - k) (nI q)) : Int32) = (atF fk fs k (n - 1 - k) (nI q)) from atF_cu (by omega)]
    exact retRi hx hb hr hlocks (by first | exact gd_no hq | rw [gd_yes hk (by omega) hq, ix_nI (show k < 2147483648 by omega)]) dX4_arrives_25
  · skip
    refine lv_iload_n hx hb dX4_arrives_11 rfl (lv_at hl 0 rfl) ?_
    refine lv_goto (tgt := 25) hx hb dX4_arrives_12 (by decide) ?_
    exact retRi hx hb hr hlocks (by first | exact gd_no c_1 | rw [gd_yes hk (by omega) hq, ix_nI (show k < 2147483648 by omega)]) dX4_arrives_25
set_option maxHeartbeats 4000000 in
set_option maxRecDepth 100000 in
theorem k_X4_from (l : Launch) (dC : Nat → ClassId) (dI : Nat → Nat → Nat) (cI cZ : ClassId) (t0 g0 q0 kq0 tq0 w0 q1 q2 q3 q4 q5 q6 q7 : Nat) (fk fs fn fi fc fw ft : Nat → Int32) (n h : Nat) (sr th tt : Int32) (c : Int32) (r : Int32) (hn6 : n ≤ 6) : Met l yX4_from wsX4_from ({ frames := 3, cells := 0, slots := 0, locals := 71 }) (va_Pc [.ref t0, .int (c), .int (r)] (PR (dC, dI) cI cZ [(t0, .inr (3, [.ref g0, .ref q0, .ref kq0, .ref tq0, .ref w0, .int (sr)])), (q0, .inr (2, [.ref q1, .ref q2, .ref q3, .ref q4, .ref q5, .ref q6, .ref q7, .int (nI n), .int (nI h), .int (th), .int (tt)])), (q1, .inl (cI, 6, .inl (fk))), (q2, .inl (cI, 6, .inl (fs))), (q3, .inl (cI, 6, .inl (fn))), (q4, .inl (cZ, 6, .inl (fi))), (q5, .inl (cI, 8, .inl (fc))), (q6, .inl (cI, 8, .inl (fw))), (q7, .inl (cI, 8, .inl (ft)))])) (QRi ((gd n c r (srcF (fun q => atF fk fs (ix c) (n - 1 - ix c) (nI q)) r 12)))) 0 0 noF := by
  refine Met.ofW (cc := cX4_from) (maxL := 4) (ret := (some .int)) (by decide) rfl ?_
  intro p e s m args below meth co s₁ B hml hv
  obtain ⟨rfl, hP, hK⟩ := hv
  have hx := B.exec
  have hb := B.bytes
  have hr := B.returns
  have hts := atoms_spec (ws := wsX4_from) B.pre
  have hown : s.vm.findClass RX4 = some m.cls := findClass_of_methodNamed B.named
  have hlocks := B.notSynchronized
  have inX4 : ∀ w ∈ u_ws RX4 TX4 6, w ∈ wsX4_from := by decide +kernel
  have lf19 := hts (.fieldLink RX4 19 "ThursdayRungs" "school" "LThursdayRungs$School;") (by decide +kernel)
  have hl := lv_entry ([.ref t0, .int (c), .int (r)]) (n := 4) (Nat.le_of_ble_eq_true rfl)
  rw [lg_entry_eq]
  generalize (lg_sl ([.ref t0, .int (c), .int (r)]) ++ List.replicate (4 - (lg_sl ([.ref t0, .int (c), .int (r)])).length) Slot.unset).toArray = ls at hl ⊢
  have hl : lv_has ls 4 [(0, .ref t0), (1, .int (c)), (2, .int (r))] := hl
  refine lv_aload_n hx hb dX4_from_0 rfl (lv_at hl 0 rfl) ?_
  refine lv_iload_n hx hb dX4_from_1 rfl (lv_at hl 1 rfl) ?_
  refine lv_iload_n hx hb dX4_from_2 rfl (lv_at hl 2 rfl) ?_
  have hPc := hP.sub (ws' := [(t0, .inr (3, [.ref g0, .ref q0, .ref kq0, .ref tq0, .ref w0, .int (sr)])), (q0, .inr (2, [.ref q1, .ref q2, .ref q3, .ref q4, .ref q5, .ref q6, .ref q7, .int (nI n), .int (nI h), .int (th), .int (tt)])), (q1, .inl (cI, 6, .inl (fk))), (q2, .inl (cI, 6, .inl (fs))), (q3, .inl (cI, 6, .inl (fn))), (q4, .inl (cZ, 6, .inl (fi))), (q5, .inl (cI, 8, .inl (fc))), (q6, .inl (cI, 8, .inl (fw))), (q7, .inl (cI, 8, .inl (ft)))]) [0, 1, 2, 3, 4, 5, 6, 7, 8] rfl
  refine callRi (v := (gd n c r (nI 0))) (W.runV (As := [.int (c), .int (r)]) (rest := []) ⟨hx, hb, hml, hown, hts⟩ (k_X4_refusalOf l dC dI cI cZ t0 g0 q0 kq0 tq0 w0 q1 q2 q3 q4 q5 q6 q7 (fk) (fs) (fn) (fi) (fc) (fw) (ft) (n) (h) (sr) (th) (tt) (c) (r) (by first | omega | with_reducible assumption | (simp; omega))) (cwV 2 hts gX4_from_X4_refusalOf rfl rfl rfl (by decide +kernel) ⟨Nat.le_of_ble_eq_true rfl, Nat.le_of_ble_eq_true rfl⟩) (preRV (q := (RX4, TX4, 6)) (ci := 3) hK hPc rfl rfl) rfl rfl hl.1 rfl (lv_room (Nat.le_of_ble_eq_true rfl)) dX4_from_3 ⟨Nat.zero_le _, Nat.zero_le _⟩) ?_
  refine lv_istore_n (lv' := [(3, .int ((gd n c r (nI 0)))), (0, .ref t0), (1, .int (c)), (2, .int (r))]) hx hb dX4_from_6 rfl hl (by decide) rfl (fun ls hl => ?_)
  refine lv_iload_n hx hb dX4_from_7 rfl (lv_at hl 0 rfl) ?_
  refine lv_if_eq (tgt := 15) hx hb dX4_from_8 (by decide) (fun c_1 => ?_) (fun c_1 => ?_)
  · skip
    obtain ⟨⟨k, hk, rfl⟩, ⟨r0, hq, rfl⟩⟩ := gd_ok c_1
    refine lv_aload_n hx hb dX4_from_15 rfl (lv_at hl 1 rfl) ?_
    refine va_get (D := (dC, dI)) (ci := 3) (v := .ref q0) (C := RX4) (T := TX4) (N := 6) hx hb hts inX4 hown hK hP 0 rfl rfl 1 (by decide) lf19 (fun _ h9 => h9) rfl dX4_from_16 ?_
    refine lv_iload_n hx hb dX4_from_19 rfl (lv_at hl 2 rfl) ?_
    refine lv_iload_n hx hb dX4_from_20 rfl (lv_at hl 3 rfl) ?_
    have hPc := hP.sub (ws' := [(q0, .inr (2, [.ref q1, .ref q2, .ref q3, .ref q4, .ref q5, .ref q6, .ref q7, .int (nI n), .int (nI h), .int (th), .int (tt)])), (q1, .inl (cI, 6, .inl (fk))), (q2, .inl (cI, 6, .inl (fs))), (q3, .inl (cI, 6, .inl (fn))), (q4, .inl (cZ, 6, .inl (fi))), (q5, .inl (cI, 8, .inl (fc))), (q6, .inl (cI, 8, .inl (fw))), (q7, .inl (cI, 8, .inl (ft)))]) [1, 2, 3, 4, 5, 6, 7, 8] rfl
    refine callRi (v := (srcF (fun r => atF fk fs k (n - 1 - k) (nI r)) (nI r0) 12)) (W.runV (As := [.int (nI k), .int (nI r0)]) (rest := []) ⟨hx, hb, hml, hown, hts⟩ (k_X3_sourcesOf l dC dI cI cZ q0 q1 q2 q3 q4 q5 q6 q7 (fk) (fs) (fn) (fi) (fc) (fw) (ft) (n) (h) (th) (tt) (k) (nI r0) (by first | omega | with_reducible assumption | (simp; omega)) (by first | omega | with_reducible assumption | (simp; omega)) (by first | omega | with_reducible assumption | (simp; omega))) (cwV 2 hts gX4_from_X3_sourcesOf rfl rfl rfl (by decide +kernel) ⟨Nat.le_of_ble_eq_true rfl, Nat.le_of_ble_eq_true rfl⟩) (preRV (q := (RX3, TX3, 11)) (ci := 2) hK hPc rfl rfl) rfl rfl hl.1 rfl (lv_room (Nat.le_of_ble_eq_true rfl)) dX4_from_21 ⟨Nat.zero_le _, Nat.zero_le _⟩) ?_
    exact retRi hx hb hr hlocks (by first | exact gd_no hq | rw [gd_yes hk (by omega) hq, ix_nI (show k < 2147483648 by omega)]) dX4_from_24
  · skip
    refine lv_iload_n hx hb dX4_from_11 rfl (lv_at hl 0 rfl) ?_
    refine lv_goto (tgt := 24) hx hb dX4_from_12 (by decide) ?_
    exact retRi hx hb hr hlocks (by first | exact gd_no c_1 | rw [gd_yes hk (by omega) hq, ix_nI (show k < 2147483648 by omega)]) dX4_from_24
set_option maxHeartbeats 4000000 in
set_option maxRecDepth 100000 in
theorem k_X4_soon (l : Launch) (dC : Nat → ClassId) (dI : Nat → Nat → Nat) (cI cZ : ClassId) (t0 g0 q0 kq0 tq0 w0 q1 q2 q3 q4 q5 q6 q7 : Nat) (fk fs fn fi fc fw ft : Nat → Int32) (n h : Nat) (sr th tt : Int32) (hn6 : n ≤ 6) : Met l yX4_soon wsX4_soon ({ frames := 2, cells := 0, slots := 0, locals := 41 }) (va_Pc [.ref t0] (PR (dC, dI) cI cZ [(t0, .inr (3, [.ref g0, .ref q0, .ref kq0, .ref tq0, .ref w0, .int (sr)])), (q0, .inr (2, [.ref q1, .ref q2, .ref q3, .ref q4, .ref q5, .ref q6, .ref q7, .int (nI n), .int (nI h), .int (th), .int (tt)])), (q1, .inl (cI, 6, .inl (fk))), (q2, .inl (cI, 6, .inl (fs))), (q3, .inl (cI, 6, .inl (fn))), (q4, .inl (cZ, 6, .inl (fi))), (q5, .inl (cI, 8, .inl (fc))), (q6, .inl (cI, 8, .inl (fw))), (q7, .inl (cI, 8, .inl (ft)))])) (QRi ((soonA fn fi n))) 0 0 noF := by
  refine Met.ofW (cc := cX4_soon) (maxL := 1) (ret := (some .int)) (by decide) rfl ?_
  intro p e s m args below meth co s₁ B hml hv
  obtain ⟨rfl, hP, hK⟩ := hv
  have hx := B.exec
  have hb := B.bytes
  have hr := B.returns
  have hts := atoms_spec (ws := wsX4_soon) B.pre
  have hown : s.vm.findClass RX4 = some m.cls := findClass_of_methodNamed B.named
  have hlocks := B.notSynchronized
  have inX4 : ∀ w ∈ u_ws RX4 TX4 6, w ∈ wsX4_soon := by decide +kernel
  have lf19 := hts (.fieldLink RX4 19 "ThursdayRungs" "school" "LThursdayRungs$School;") (by decide +kernel)
  have hl := lv_entry ([.ref t0]) (n := 1) (Nat.le_of_ble_eq_true rfl)
  rw [lg_entry_eq]
  generalize (lg_sl ([.ref t0]) ++ List.replicate (1 - (lg_sl ([.ref t0])).length) Slot.unset).toArray = ls at hl ⊢
  have hl : lv_has ls 1 [(0, .ref t0)] := hl
  refine lv_aload_n hx hb dX4_soon_0 rfl (lv_at hl 0 rfl) ?_
  refine va_get (D := (dC, dI)) (ci := 3) (v := .ref q0) (C := RX4) (T := TX4) (N := 6) hx hb hts inX4 hown hK hP 0 rfl rfl 1 (by decide) lf19 (fun _ h9 => h9) rfl dX4_soon_1 ?_
  have hPc := hP.sub (ws' := [(q0, .inr (2, [.ref q1, .ref q2, .ref q3, .ref q4, .ref q5, .ref q6, .ref q7, .int (nI n), .int (nI h), .int (th), .int (tt)])), (q1, .inl (cI, 6, .inl (fk))), (q2, .inl (cI, 6, .inl (fs))), (q3, .inl (cI, 6, .inl (fn))), (q4, .inl (cZ, 6, .inl (fi))), (q5, .inl (cI, 8, .inl (fc))), (q6, .inl (cI, 8, .inl (fw))), (q7, .inl (cI, 8, .inl (ft)))]) [1, 2, 3, 4, 5, 6, 7, 8] rfl
  refine callRi (v := (if (n = 0) then nI 1 else nI 0)) (W.runV (As := []) (rest := []) ⟨hx, hb, hml, hown, hts⟩ (k_X3_isNone l dC dI cI cZ q0 q1 q2 q3 q4 q5 q6 q7 (fk) (fs) (fn) (fi) (fc) (fw) (ft) (n) (h) (th) (tt) (by first | omega | with_reducible assumption | (simp; omega))) (cwV 0 hts gX4_soon_X3_isNone rfl rfl rfl (by decide +kernel) ⟨Nat.le_of_ble_eq_true rfl, Nat.le_of_ble_eq_true rfl⟩) (preRV (q := (RX3, TX3, 11)) (ci := 2) hK hPc rfl rfl) rfl rfl hl.1 rfl (lv_room (Nat.le_of_ble_eq_true rfl)) dX4_soon_4 ⟨Nat.zero_le _, Nat.zero_le _⟩) ?_
  refine w_ifeqB (tgt := 15) hx hb dX4_soon_7 (by decide) (fun c_1 => ?_) (fun c_1 => ?_)
  · skip
    refine lv_aload_n hx hb dX4_soon_15 rfl (lv_at hl 0 rfl) ?_
    refine va_get (D := (dC, dI)) (ci := 3) (v := .ref q0) (C := RX4) (T := TX4) (N := 6) hx hb hts inX4 hown hK hP 0 rfl rfl 1 (by decide) lf19 (fun _ h9 => h9) rfl dX4_soon_16 ?_
    have hPc := hP.sub (ws' := [(q0, .inr (2, [.ref q1, .ref q2, .ref q3, .ref q4, .ref q5, .ref q6, .ref q7, .int (nI n), .int (nI h), .int (th), .int (tt)])), (q1, .inl (cI, 6, .inl (fk))), (q2, .inl (cI, 6, .inl (fs))), (q3, .inl (cI, 6, .inl (fn))), (q4, .inl (cZ, 6, .inl (fi))), (q5, .inl (cI, 8, .inl (fc))), (q6, .inl (cI, 8, .inl (fw))), (q7, .inl (cI, 8, .inl (ft)))]) [1, 2, 3, 4, 5, 6, 7, 8] rfl
    refine callRi (v := (ttF fn fi n)) (W.runV (As := []) (rest := []) ⟨hx, hb, hml, hown, hts⟩ (k_X3_thursdaysToTop l dC dI cI cZ q0 q1 q2 q3 q4 q5 q6 q7 (fk) (fs) (fn) (fi) (fc) (fw) (ft) (n) (h) (th) (tt) (by first | omega | with_reducible assumption | (simp; omega))) (cwV 0 hts gX4_soon_X3_thursdaysToTop rfl rfl rfl (by decide +kernel) ⟨Nat.le_of_ble_eq_true rfl, Nat.le_of_ble_eq_true rfl⟩) (preRV (q := (RX3, TX3, 11)) (ci := 2) hK hPc rfl rfl) rfl rfl hl.1 rfl (lv_room (Nat.le_of_ble_eq_true rfl)) dX4_soon_19 ⟨Nat.zero_le _, Nat.zero_le _⟩) ?_
    exact retRi hx hb hr hlocks (by simp [soonA, c_1]) dX4_soon_22
  · skip
    refine lv_bipush (v := -103) hx hb dX4_soon_10 (by decide) ?_
    refine lv_goto (tgt := 22) hx hb dX4_soon_12 (by decide) ?_
    exact retRi hx hb hr hlocks (by simp [soonA, c_1]) dX4_soon_22
set_option maxHeartbeats 4000000 in
set_option maxRecDepth 100000 in
theorem k_X4_cure (l : Launch) (dC : Nat → ClassId) (dI : Nat → Nat → Nat) (cI cZ : ClassId) (t0 g0 q0 kq0 tq0 w0 q1 q2 q3 q4 q5 q6 q7 : Nat) (fk fs fn fi fc fw ft : Nat → Int32) (n h : Nat) (sr th tt : Int32) (w : Int32) (hn6 : n ≤ 6) : Met l yX4_cure wsX4_cure ({ frames := 4, cells := 0, slots := 0, locals := 94 }) (va_Pc [.ref t0, .int (w)] (PR (dC, dI) cI cZ [(t0, .inr (3, [.ref g0, .ref q0, .ref kq0, .ref tq0, .ref w0, .int (sr)])), (q0, .inr (2, [.ref q1, .ref q2, .ref q3, .ref q4, .ref q5, .ref q6, .ref q7, .int (nI n), .int (nI h), .int (th), .int (tt)])), (q1, .inl (cI, 6, .inl (fk))), (q2, .inl (cI, 6, .inl (fs))), (q3, .inl (cI, 6, .inl (fn))), (q4, .inl (cZ, 6, .inl (fi))), (q5, .inl (cI, 8, .inl (fc))), (q6, .inl (cI, 8, .inl (fw))), (q7, .inl (cI, 8, .inl (ft)))])) (QRi ((cureA n fk fs w))) 0 0 noF := by
  refine Met.ofW (cc := cX4_cure) (maxL := 3) (ret := (some .int)) (by decide) rfl ?_
  intro p e s m args below meth co s₁ B hml hv
  obtain ⟨rfl, hP, hK⟩ := hv
  have hx := B.exec
  have hb := B.bytes
  have hr := B.returns
  have hts := atoms_spec (ws := wsX4_cure) B.pre
  have hown : s.vm.findClass RX4 = some m.cls := findClass_of_methodNamed B.named
  have hlocks := B.notSynchronized
  have inX4 : ∀ w ∈ u_ws RX4 TX4 6, w ∈ wsX4_cure := by decide +kernel
  have lf19 := hts (.fieldLink RX4 19 "ThursdayRungs" "school" "LThursdayRungs$School;") (by decide +kernel)
  have hl := lv_entry ([.ref t0, .int (w)]) (n := 3) (Nat.le_of_ble_eq_true rfl)
  rw [lg_entry_eq]
  generalize (lg_sl ([.ref t0, .int (w)]) ++ List.replicate (3 - (lg_sl ([.ref t0, .int (w)])).length) Slot.unset).toArray = ls at hl ⊢
  have hl : lv_has ls 3 [(0, .ref t0), (1, .int (w))] := hl
  refine lv_iload_n hx hb dX4_cure_0 rfl (lv_at hl 1 rfl) ?_
  refine lv_if_lt (tgt := 9) hx hb dX4_cure_1 (by decide) (fun c_1 => ?_) (fun c_1 => ?_)
  · skip
    refine lv_bipush (v := -102) hx hb dX4_cure_9 (by decide) ?_
    exact retRi hx hb hr hlocks (by exact cureA_o (by first | exact Or.inl c_1 | exact Or.inr c_1)) dX4_cure_11
  · skip
    refine lv_iload_n hx hb dX4_cure_4 rfl (lv_at hl 1 rfl) ?_
    refine lv_iconst (v := nI 1) hx hb dX4_cure_5 (by decide) ?_
    refine lv_icmp_le (tgt := 12) hx hb dX4_cure_6 (by decide) (fun c_2 => ?_) (fun c_2 => ?_)
    · skip
      refine lv_aload_n hx hb dX4_cure_12 rfl (lv_at hl 0 rfl) ?_
      refine va_get (D := (dC, dI)) (ci := 3) (v := .ref q0) (C := RX4) (T := TX4) (N := 6) hx hb hts inX4 hown hK hP 0 rfl rfl 1 (by decide) lf19 (fun _ h9 => h9) rfl dX4_cure_13 ?_
      have hPc := hP.sub (ws' := [(q0, .inr (2, [.ref q1, .ref q2, .ref q3, .ref q4, .ref q5, .ref q6, .ref q7, .int (nI n), .int (nI h), .int (th), .int (tt)])), (q1, .inl (cI, 6, .inl (fk))), (q2, .inl (cI, 6, .inl (fs))), (q3, .inl (cI, 6, .inl (fn))), (q4, .inl (cZ, 6, .inl (fi))), (q5, .inl (cI, 8, .inl (fc))), (q6, .inl (cI, 8, .inl (fw))), (q7, .inl (cI, 8, .inl (ft)))]) [1, 2, 3, 4, 5, 6, 7, 8] rfl
      refine callRi (v := (if (n = 0) then nI 1 else nI 0)) (W.runV (As := []) (rest := []) ⟨hx, hb, hml, hown, hts⟩ (k_X3_isNone l dC dI cI cZ q0 q1 q2 q3 q4 q5 q6 q7 (fk) (fs) (fn) (fi) (fc) (fw) (ft) (n) (h) (th) (tt) (by first | omega | with_reducible assumption | (simp; omega))) (cwV 0 hts gX4_cure_X3_isNone rfl rfl rfl (by decide +kernel) ⟨Nat.le_of_ble_eq_true rfl, Nat.le_of_ble_eq_true rfl⟩) (preRV (q := (RX3, TX3, 11)) (ci := 2) hK hPc rfl rfl) rfl rfl hl.1 rfl (lv_room (Nat.le_of_ble_eq_true rfl)) dX4_cure_16 ⟨Nat.zero_le _, Nat.zero_le _⟩) ?_
      refine w_ifeqB (tgt := 25) hx hb dX4_cure_19 (by decide) (fun c_3 => ?_) (fun c_3 => ?_)
      · skip
        refine lv_aload_n hx hb dX4_cure_25 rfl (lv_at hl 0 rfl) ?_
        refine va_get (D := (dC, dI)) (ci := 3) (v := .ref q0) (C := RX4) (T := TX4) (N := 6) hx hb hts inX4 hown hK hP 0 rfl rfl 1 (by decide) lf19 (fun _ h9 => h9) rfl dX4_cure_26 ?_
        have hPc := hP.sub (ws' := [(q0, .inr (2, [.ref q1, .ref q2, .ref q3, .ref q4, .ref q5, .ref q6, .ref q7, .int (nI n), .int (nI h), .int (th), .int (tt)])), (q1, .inl (cI, 6, .inl (fk))), (q2, .inl (cI, 6, .inl (fs))), (q3, .inl (cI, 6, .inl (fn))), (q4, .inl (cZ, 6, .inl (fi))), (q5, .inl (cI, 8, .inl (fc))), (q6, .inl (cI, 8, .inl (fw))), (q7, .inl (cI, 8, .inl (ft)))]) [1, 2, 3, 4, 5, 6, 7, 8] rfl
        refine callRi (v := (bcF (fun i => ucF fk (cuF fs (nI i)) n) (ucF fk fs n) n).1) (W.runV (As := []) (rest := []) ⟨hx, hb, hml, hown, hts⟩ (k_X3_bestToCure l dC dI cI cZ q0 q1 q2 q3 q4 q5 q6 q7 (fk) (fs) (fn) (fi) (fc) (fw) (ft) (n) (h) (th) (tt) (by first | omega | with_reducible assumption | (simp; omega)) (by first | omega | with_reducible assumption | (simp; omega))) (cwV 0 hts gX4_cure_X3_bestToCure rfl rfl rfl (by decide +kernel) ⟨Nat.le_of_ble_eq_true rfl, Nat.le_of_ble_eq_true rfl⟩) (preRV (q := (RX3, TX3, 11)) (ci := 2) hK hPc rfl rfl) rfl rfl hl.1 rfl (lv_room (Nat.le_of_ble_eq_true rfl)) dX4_cure_29 ⟨Nat.zero_le _, Nat.zero_le _⟩) ?_
        refine lv_istore_n (lv' := [(2, .int ((bcF (fun i => ucF fk (cuF fs (nI i)) n) (ucF fk fs n) n).1)), (0, .ref t0), (1, .int (w))]) hx hb dX4_cure_32 rfl hl (by decide) rfl (fun ls hl => ?_)
        refine lv_iload_n hx hb dX4_cure_33 rfl (lv_at hl 2 rfl) ?_
        refine lv_if_ne (tgt := 41) hx hb dX4_cure_34 (by decide) (fun c_4 => ?_) (fun c_4 => ?_)
        · skip
          refine lv_aload_n hx hb dX4_cure_41 rfl (lv_at hl 1 rfl) ?_
          refine va_get (D := (dC, dI)) (ci := 3) (v := .ref q0) (C := RX4) (T := TX4) (N := 6) hx hb hts inX4 hown hK hP 0 rfl rfl 1 (by decide) lf19 (fun _ h9 => h9) rfl dX4_cure_42 ?_
          refine lv_iload_n hx hb dX4_cure_45 rfl (lv_at hl 0 rfl) ?_
          have hPc := hP.sub (ws' := [(q0, .inr (2, [.ref q1, .ref q2, .ref q3, .ref q4, .ref q5, .ref q6, .ref q7, .int (nI n), .int (nI h), .int (th), .int (tt)])), (q1, .inl (cI, 6, .inl (fk))), (q2, .inl (cI, 6, .inl (fs))), (q3, .inl (cI, 6, .inl (fn))), (q4, .inl (cZ, 6, .inl (fi))), (q5, .inl (cI, 8, .inl (fc))), (q6, .inl (cI, 8, .inl (fw))), (q7, .inl (cI, 8, .inl (ft)))]) [1, 2, 3, 4, 5, 6, 7, 8] rfl
          refine callRi (v := nI (ucF fk (cuF fs ((bcF (fun i => ucF fk (cuF fs (nI i)) n) (ucF fk fs n) n).1)) n)) (W.runV (As := [.int ((bcF (fun i => ucF fk (cuF fs (nI i)) n) (ucF fk fs n) n).1)]) (rest := []) ⟨hx, hb, hml, hown, hts⟩ (k_X3_unchangedAtTop l dC dI cI cZ q0 q1 q2 q3 q4 q5 q6 q7 (fk) (fs) (fn) (fi) (fc) (fw) (ft) (n) (h) (th) (tt) ((bcF (fun i => ucF fk (cuF fs (nI i)) n) (ucF fk fs n) n).1) (by first | omega | with_reducible assumption | (simp; omega)) (by first | omega | with_reducible assumption | (simp; omega))) (cwV 1 hts gX4_cure_X3_unchangedAtTop rfl rfl rfl (by decide +kernel) ⟨Nat.le_of_ble_eq_true rfl, Nat.le_of_ble_eq_true rfl⟩) (preRV (q := (RX3, TX3, 11)) (ci := 2) hK hPc rfl rfl) rfl rfl hl.1 rfl (lv_room (Nat.le_of_ble_eq_true rfl)) dX4_cure_46 ⟨Nat.zero_le _, Nat.zero_le _⟩) ?_
          exact retRi hx hb hr hlocks (by first | exact cureA_0 (by assumption) (by assumption) (by assumption) c_4 | exact cureA_1 (by assumption) (by assumption) (by assumption) c_4) dX4_cure_49
        · skip
          refine lv_iload_n hx hb dX4_cure_37 rfl (lv_at hl 0 rfl) ?_
          refine lv_goto (tgt := 49) hx hb dX4_cure_38 (by decide) ?_
          exact retRi hx hb hr hlocks (by first | exact cureA_0 (by assumption) (by assumption) (by assumption) c_4 | exact cureA_1 (by assumption) (by assumption) (by assumption) c_4) dX4_cure_49
      · skip
        refine lv_bipush (v := -103) hx hb dX4_cure_22 (by decide) ?_
        exact retRi hx hb hr hlocks (by exact cureA_s (by assumption) (by assumption) c_3) dX4_cure_24
    · skip
      refine lv_bipush (v := -102) hx hb dX4_cure_9 (by decide) ?_
      exact retRi hx hb hr hlocks (by exact cureA_o (by first | exact Or.inl c_2 | exact Or.inr c_2)) dX4_cure_11
