set_option maxHeartbeats 4000000 in
set_option maxRecDepth 100000 in
theorem k_X3_atTop (l : Launch) (dC : Nat → ClassId) (dI : Nat → Nat → Nat) (cI cZ : ClassId) (q0 q1 q2 q3 q4 q5 q6 q7 : Nat) (fk fs fn fi fc fw ft : Nat → Int32) (n h : Nat) (th tt : Int32) (c : Nat) (r : Int32) (cu : Int32) (hn1 : 1 ≤ n) (hn6 : n ≤ 6) (hc : c < n) : Met l yX3_atTop wsX3_atTop ({ frames := 1, cells := 0, slots := 0, locals := 22 }) (va_Pc [.ref q0, .int (nI c), .int (r), .int (cu)] (PR (dC, dI) cI cZ [(q0, .inr (2, [.ref q1, .ref q2, .ref q3, .ref q4, .ref q5, .ref q6, .ref q7, .int (nI n), .int (nI h), .int (th), .int (tt)])), (q1, .inl (cI, 6, .inl (fk))), (q2, .inl (cI, 6, .inl (fs))), (q3, .inl (cI, 6, .inl (fn))), (q4, .inl (cZ, 6, .inl (fi))), (q5, .inl (cI, 8, .inl (fc))), (q6, .inl (cI, 8, .inl (fw))), (q7, .inl (cI, 8, .inl (ft)))])) (QRi ((atF fk (cuF fs cu) c (n - 1 - c) r))) 0 0 noF := by
  refine Met.ofW (cc := cX3_atTop) (maxL := 6) (ret := (some .int)) (by decide) rfl ?_
  intro p e s m args below meth co s₁ B hml hv
  obtain ⟨rfl, hP, hK⟩ := hv
  have hx := B.exec
  have hb := B.bytes
  have hr := B.returns
  have hts := atoms_spec (ws := wsX3_atTop) B.pre
  have hown : s.vm.findClass RX3 = some m.cls := findClass_of_methodNamed B.named
  have hlocks := B.notSynchronized
  have inX3 : ∀ w ∈ u_ws RX3 TX3 11, w ∈ wsX3_atTop := by decide +kernel
  have lf11 := hts (.fieldLink RX3 11 "ThursdayRungs$School" "kinds" "[I") (by decide +kernel)
  have lf15 := hts (.fieldLink RX3 15 "ThursdayRungs$School" "slips" "[I") (by decide +kernel)
  have hl := lv_entry ([.ref q0, .int (nI c), .int (r), .int (cu)]) (n := 6) (Nat.le_of_ble_eq_true rfl)
  rw [lg_entry_eq]
  generalize (lg_sl ([.ref q0, .int (nI c), .int (r), .int (cu)]) ++ List.replicate (6 - (lg_sl ([.ref q0, .int (nI c), .int (r), .int (cu)])).length) Slot.unset).toArray = ls at hl ⊢
  have hl : lv_has ls 6 [(0, .ref q0), (1, .int (nI c)), (2, .int (r)), (3, .int (cu))] := hl
  refine lv_iload_n hx hb dX3_atTop_0 rfl (lv_at hl 2 rfl) ?_
  refine lv_istore (lv' := [(4, .int (r)), (0, .ref q0), (1, .int (nI c)), (2, .int (r)), (3, .int (cu))]) hx hb dX3_atTop_1 hl (by decide) rfl (fun ls hl => ?_)
  refine lv_iload_n hx hb dX3_atTop_3 rfl (lv_at hl 2 rfl) ?_
  refine lv_istore (lv' := [(5, .int (nI c)), (4, .int (r)), (0, .ref q0), (1, .int (nI c)), (2, .int (r)), (3, .int (cu))]) hx hb dX3_atTop_4 hl (by decide) rfl (fun ls hl => ?_)
  have lp6 : ∀ (fuel : Nat) (k : Nat) (v : Int32), n - k < fuel → (c ≤ k ∧ k ≤ n - 1) → (((atF fk (cuF fs cu) c (n - 1 - c) r)) = atF fk (cuF fs cu) k (n - 1 - k) v) → ∀ (ls : Array Slot), lv_has ls 6 [(0, .ref q0), (1, .int (nI c)), (2, .int (r)), (3, .int (cu)), (4, .int (v)), (5, .int (nI k))] → W p l e (headSpec wsX3_atTop ({ frames := 1, cells := 0, slots := 0, locals := 22 })).room s m ([.ref q0, .int (nI c), .int (r), .int (cu)] : List Value).toArray below meth co s.heap [] 0 0 (MQ below (QRi ((atF fk (cuF fs cu) c (n - 1 - c) r))) ([.ref q0, .int (nI c), .int (r), .int (cu)] : List Value).toArray s 0 0 noF) (F0 m 6 ls []) := by
    intro fuel
    induction fuel with
    | zero => intro k v h0; exact absurd h0 (Nat.not_lt_zero _)
    | succ fuel ih6 =>
      intro k v hm_1 hk hL ls hl
      refine lv_iload hx hb dX3_atTop_6 (lv_at hl 5 rfl) ?_
      refine lv_aload_n hx hb dX3_atTop_8 rfl (lv_at hl 0 rfl) ?_
      have hPc := hP.sub (ws' := [(q0, .inr (2, [.ref q1, .ref q2, .ref q3, .ref q4, .ref q5, .ref q6, .ref q7, .int (nI n), .int (nI h), .int (th), .int (tt)])), (q1, .inl (cI, 6, .inl (fk))), (q2, .inl (cI, 6, .inl (fs))), (q3, .inl (cI, 6, .inl (fn))), (q4, .inl (cZ, 6, .inl (fi))), (q5, .inl (cI, 8, .inl (fc))), (q6, .inl (cI, 8, .inl (fw))), (q7, .inl (cI, 8, .inl (ft)))]) [0, 1, 2, 3, 4, 5, 6, 7] rfl
      refine callRi (v := nI (n - 1)) (W.runV (As := []) (rest := [.int (nI k)]) ⟨hx, hb, hml, hown, hts⟩ (k_X3_top l dC dI cI cZ q0 q1 q2 q3 q4 q5 q6 q7 (fk) (fs) (fn) (fi) (fc) (fw) (ft) (n) (h) (th) (tt) (by first | omega | with_reducible assumption | (simp; omega)) (by first | omega | with_reducible assumption | (simp; omega))) (cwV 0 hts gX3_atTop_X3_top rfl rfl rfl (by decide +kernel) ⟨Nat.le_of_ble_eq_true rfl, Nat.le_of_ble_eq_true rfl⟩) (preRV (q := (RX3, TX3, 11)) (ci := 2) hK hPc rfl rfl) rfl rfl hl.1 rfl (lv_room (Nat.le_of_ble_eq_true rfl)) dX3_atTop_9 ⟨Nat.zero_le _, Nat.zero_le _⟩) ?_
      refine w_ci_ge (tgt := 52) hx hb (by omega) (by omega) dX3_atTop_12 (by decide) (fun c_2 => ?_) (fun c_2 => ?_)
      · skip
        refine lv_iload hx hb dX3_atTop_52 (lv_at hl 4 rfl) ?_
        exact retRi hx hb hr hlocks (by rw [hL, show n - 1 - k = 0 by omega]; rfl) dX3_atTop_54
      · skip
        refine lv_aload_n hx hb dX3_atTop_15 rfl (lv_at hl 0 rfl) ?_
        refine va_get (D := (dC, dI)) (ci := 2) (v := .ref q1) (C := RX3) (T := TX3) (N := 11) hx hb hts inX3 hown hK hP 0 rfl rfl 0 (by decide) lf11 (fun _ h9 => h9) rfl dX3_atTop_16 ?_
        refine lv_iload hx hb dX3_atTop_19 (lv_at hl 5 rfl) ?_
        refine w_iald (k := k) hx hb hK hP 1 0 rfl rfl (by omega) (by decide) dX3_atTop_21 ?_
        refine lv_iload hx hb dX3_atTop_22 (lv_at hl 5 rfl) ?_
        refine lv_iload_n hx hb dX3_atTop_24 rfl (lv_at hl 3 rfl) ?_
        refine lv_icmp_ne (tgt := 32) hx hb dX3_atTop_25 (by decide) (fun c_3 => ?_) (fun c_3 => ?_)
        · skip
          refine lv_aload_n hx hb dX3_atTop_32 rfl (lv_at hl 0 rfl) ?_
          refine va_get (D := (dC, dI)) (ci := 2) (v := .ref q2) (C := RX3) (T := TX3) (N := 11) hx hb hts inX3 hown hK hP 0 rfl rfl 1 (by decide) lf15 (fun _ h9 => h9) rfl dX3_atTop_33 ?_
          refine lv_iload hx hb dX3_atTop_36 (lv_at hl 5 rfl) ?_
          refine w_iald (k := k) hx hb hK hP 2 0 rfl rfl (by omega) (by decide) dX3_atTop_38 ?_
          refine lv_iload hx hb dX3_atTop_39 (lv_at hl 4 rfl) ?_
          have hPc := hP.sub (ws' := []) [] rfl
          refine callRi (v := (tb (fk k) (fs k) v)) (W.runS (As := [.int (fk k), .int (fs k), .int (v)]) (rest := []) ⟨hx, hb, hml, hown, hts⟩ (k_X1_passesOn l dC dI cI cZ (fk k) (fs k) (v)) (va_cwS 3 hts gX3_atTop_X1_passesOn rfl rfl rfl (by decide +kernel) ⟨Nat.le_of_ble_eq_true rfl, Nat.le_of_ble_eq_true rfl⟩) (preRS hK hPc) rfl rfl hl.1 rfl (lv_room (Nat.le_of_ble_eq_true rfl)) dX3_atTop_41 ⟨Nat.zero_le _, Nat.zero_le _⟩) ?_
          refine lv_istore (lv' := [(4, .int ((tb (fk k) (fs k) v))), (0, .ref q0), (1, .int (nI c)), (2, .int (r)), (3, .int (cu)), (5, .int (nI k))]) hx hb dX3_atTop_44 hl (by decide) rfl (fun ls hl => ?_)
          refine lv_iinc (v := nI (k + 1)) (lv' := [(5, .int (nI (k + 1))), (4, .int ((tb (fk k) (fs k) v))), (0, .ref q0), (1, .int (nI c)), (2, .int (r)), (3, .int (cu))]) hx hb dX3_atTop_46 hl (k := 5) rfl w_inc1 (by decide) rfl (fun ls hl => ?_)
          refine lv_goto (tgt := 6) hx hb dX3_atTop_49 (by decide) ?_
          exact ih6 (k + 1) ((tb (fk k) (fs k) v)) (by omega) (by first | omega | with_reducible assumption | (first | with_reducible rfl | exact (if_pos (c_3)).symm | exact (if_neg (c_3)).symm | (simp [hn1, hn6, hc, hk, hL, c_2, c_3]; done) | omega | rfl)) (by rw [hL, show n - 1 - k = (n - 1 - (k + 1)) + 1 by omega, atF]; simp_all [cuF]) ls (lv_sub hl [2, 3, 4, 5, 1, 0] rfl)
        · skip
          refine lv_iconst (v := nI 0) hx hb dX3_atTop_28 (by decide) ?_
          refine lv_goto (tgt := 39) hx hb dX3_atTop_29 (by decide) ?_
          refine lv_iload hx hb dX3_atTop_39 (lv_at hl 4 rfl) ?_
          have hPc := hP.sub (ws' := []) [] rfl
          refine callRi (v := (tb (fk k) (nI 0) v)) (W.runS (As := [.int (fk k), .int (nI 0), .int (v)]) (rest := []) ⟨hx, hb, hml, hown, hts⟩ (k_X1_passesOn l dC dI cI cZ (fk k) (nI 0) (v)) (va_cwS 3 hts gX3_atTop_X1_passesOn rfl rfl rfl (by decide +kernel) ⟨Nat.le_of_ble_eq_true rfl, Nat.le_of_ble_eq_true rfl⟩) (preRS hK hPc) rfl rfl hl.1 rfl (lv_room (Nat.le_of_ble_eq_true rfl)) dX3_atTop_41 ⟨Nat.zero_le _, Nat.zero_le _⟩) ?_
          refine lv_istore (lv' := [(4, .int ((tb (fk k) (nI 0) v))), (0, .ref q0), (1, .int (nI c)), (2, .int (r)), (3, .int (cu)), (5, .int (nI k))]) hx hb dX3_atTop_44 hl (by decide) rfl (fun ls hl => ?_)
          refine lv_iinc (v := nI (k + 1)) (lv' := [(5, .int (nI (k + 1))), (4, .int ((tb (fk k) (nI 0) v))), (0, .ref q0), (1, .int (nI c)), (2, .int (r)), (3, .int (cu))]) hx hb dX3_atTop_46 hl (k := 5) rfl w_inc1 (by decide) rfl (fun ls hl => ?_)
          refine lv_goto (tgt := 6) hx hb dX3_atTop_49 (by decide) ?_
          exact ih6 (k + 1) ((tb (fk k) (nI 0) v)) (by omega) (by first | omega | with_reducible assumption | (first | with_reducible rfl | exact (if_pos (c_3)).symm | exact (if_neg (c_3)).symm | (simp [hn1, hn6, hc, hk, hL, c_2, c_3]; done) | omega | rfl)) (by rw [hL, show n - 1 - k = (n - 1 - (k + 1)) + 1 by omega, atF]; simp_all [cuF]) ls (lv_sub hl [2, 3, 4, 5, 1, 0] rfl)
  exact lp6 (n - c + 1) (c) (r) (Nat.lt_succ_self _) (by first | omega | with_reducible assumption | (first | with_reducible rfl | exact (if_pos (hc)).symm | exact (if_neg (hc)).symm | (simp [hn1, hn6, hc]; done) | omega | rfl)) (by rfl) ls (lv_sub hl [2, 3, 4, 5, 1, 0] rfl)
set_option maxHeartbeats 4000000 in
set_option maxRecDepth 100000 in
theorem k_X3_sourcesOf (l : Launch) (dC : Nat → ClassId) (dI : Nat → Nat → Nat) (cI cZ : ClassId) (q0 q1 q2 q3 q4 q5 q6 q7 : Nat) (fk fs fn fi fc fw ft : Nat → Int32) (n h : Nat) (th tt : Int32) (c : Nat) (x : Int32) (hn1 : 1 ≤ n) (hn6 : n ≤ 6) (hc : c < n) : Met l yX3_sourcesOf wsX3_sourcesOf ({ frames := 2, cells := 0, slots := 0, locals := 47 }) (va_Pc [.ref q0, .int (nI c), .int (x)] (PR (dC, dI) cI cZ [(q0, .inr (2, [.ref q1, .ref q2, .ref q3, .ref q4, .ref q5, .ref q6, .ref q7, .int (nI n), .int (nI h), .int (th), .int (tt)])), (q1, .inl (cI, 6, .inl (fk))), (q2, .inl (cI, 6, .inl (fs))), (q3, .inl (cI, 6, .inl (fn))), (q4, .inl (cZ, 6, .inl (fi))), (q5, .inl (cI, 8, .inl (fc))), (q6, .inl (cI, 8, .inl (fw))), (q7, .inl (cI, 8, .inl (ft)))])) (QRi ((srcF (fun r => atF fk fs c (n - 1 - c) (nI r)) x 12))) 0 0 noF := by
  refine Met.ofW (cc := cX3_sourcesOf) (maxL := 5) (ret := (some .int)) (by decide) rfl ?_
  intro p e s m args below meth co s₁ B hml hv
  obtain ⟨rfl, hP, hK⟩ := hv
  have hx := B.exec
  have hb := B.bytes
  have hr := B.returns
  have hts := atoms_spec (ws := wsX3_sourcesOf) B.pre
  have hown : s.vm.findClass RX3 = some m.cls := findClass_of_methodNamed B.named
  have hlocks := B.notSynchronized
  have hl := lv_entry ([.ref q0, .int (nI c), .int (x)]) (n := 5) (Nat.le_of_ble_eq_true rfl)
  rw [lg_entry_eq]
  generalize (lg_sl ([.ref q0, .int (nI c), .int (x)]) ++ List.replicate (5 - (lg_sl ([.ref q0, .int (nI c), .int (x)])).length) Slot.unset).toArray = ls at hl ⊢
  have hl : lv_has ls 5 [(0, .ref q0), (1, .int (nI c)), (2, .int (x))] := hl
  refine lv_iconst (v := nI 0) hx hb dX3_sourcesOf_0 (by decide) ?_
  refine lv_istore_n (lv' := [(3, .int (nI 0)), (0, .ref q0), (1, .int (nI c)), (2, .int (x))]) hx hb dX3_sourcesOf_1 rfl hl (by decide) rfl (fun ls hl => ?_)
  refine lv_iconst (v := nI 0) hx hb dX3_sourcesOf_2 (by decide) ?_
  refine lv_istore (lv' := [(4, .int (nI 0)), (3, .int (nI 0)), (0, .ref q0), (1, .int (nI c)), (2, .int (x))]) hx hb dX3_sourcesOf_3 hl (by decide) rfl (fun ls hl => ?_)
  have lp5 : ∀ (fuel : Nat) (k : Nat), 12 - k < fuel → (k ≤ 12) → ∀ (ls : Array Slot), lv_has ls 5 [(0, .ref q0), (1, .int (nI c)), (2, .int (x)), (3, .int ((srcF (fun r => atF fk fs c (n - 1 - c) (nI r)) x k))), (4, .int (nI k))] → W p l e (headSpec wsX3_sourcesOf ({ frames := 2, cells := 0, slots := 0, locals := 47 })).room s m ([.ref q0, .int (nI c), .int (x)] : List Value).toArray below meth co s.heap [] 0 0 (MQ below (QRi ((srcF (fun r => atF fk fs c (n - 1 - c) (nI r)) x 12))) ([.ref q0, .int (nI c), .int (x)] : List Value).toArray s 0 0 noF) (F0 m 5 ls []) := by
    intro fuel
    induction fuel with
    | zero => intro k h0; exact absurd h0 (Nat.not_lt_zero _)
    | succ fuel ih5 =>
      intro k hm_1 hk ls hl
      refine lv_iload hx hb dX3_sourcesOf_5 (lv_at hl 4 rfl) ?_
      refine lv_bipush (v := nI 12) hx hb dX3_sourcesOf_7 (by decide) ?_
      refine w_ci_ge (tgt := 37) hx hb (by omega) (by omega) dX3_sourcesOf_9 (by decide) (fun c_2 => ?_) (fun c_2 => ?_)
      · skip
        refine lv_iload_n hx hb dX3_sourcesOf_37 rfl (lv_at hl 3 rfl) ?_
        exact retRi hx hb hr hlocks (by rw [show k = 12 by omega]) dX3_sourcesOf_38
      · skip
        refine lv_aload_n hx hb dX3_sourcesOf_12 rfl (lv_at hl 0 rfl) ?_
        refine lv_iload_n hx hb dX3_sourcesOf_13 rfl (lv_at hl 1 rfl) ?_
        refine lv_iload hx hb dX3_sourcesOf_14 (lv_at hl 4 rfl) ?_
        refine lv_iconst (v := -1) hx hb dX3_sourcesOf_16 (by decide) ?_
        have hPc := hP.sub (ws' := [(q0, .inr (2, [.ref q1, .ref q2, .ref q3, .ref q4, .ref q5, .ref q6, .ref q7, .int (nI n), .int (nI h), .int (th), .int (tt)])), (q1, .inl (cI, 6, .inl (fk))), (q2, .inl (cI, 6, .inl (fs))), (q3, .inl (cI, 6, .inl (fn))), (q4, .inl (cZ, 6, .inl (fi))), (q5, .inl (cI, 8, .inl (fc))), (q6, .inl (cI, 8, .inl (fw))), (q7, .inl (cI, 8, .inl (ft)))]) [0, 1, 2, 3, 4, 5, 6, 7] rfl
        refine callRi (v := (atF fk (cuF fs (-1)) c (n - 1 - c) (nI k))) (W.runV (As := [.int (nI c), .int (nI k), .int ((-1))]) (rest := []) ⟨hx, hb, hml, hown, hts⟩ (k_X3_atTop l dC dI cI cZ q0 q1 q2 q3 q4 q5 q6 q7 (fk) (fs) (fn) (fi) (fc) (fw) (ft) (n) (h) (th) (tt) (c) (nI k) ((-1)) (by first | omega | with_reducible assumption | (simp; omega)) (by first | omega | with_reducible assumption | (simp; omega)) (by first | omega | with_reducible assumption | (simp; omega))) (cwV 3 hts gX3_sourcesOf_X3_atTop rfl rfl rfl (by decide +kernel) ⟨Nat.le_of_ble_eq_true rfl, Nat.le_of_ble_eq_true rfl⟩) (preRV (q := (RX3, TX3, 11)) (ci := 2) hK hPc rfl rfl) rfl rfl hl.1 rfl (lv_room (Nat.le_of_ble_eq_true rfl)) dX3_sourcesOf_17 ⟨Nat.zero_le _, Nat.zero_le _⟩) ?_
        rw [show ((atF fk (cuF fs (-1)) c (n - 1 - c) (nI k)) : Int32) = (atF fk fs c (n - 1 - c) (nI k)) from atF_cu (by omega)]
        refine lv_iload_n hx hb dX3_sourcesOf_20 rfl (lv_at hl 2 rfl) ?_
        refine lv_icmp_ne (tgt := 31) hx hb dX3_sourcesOf_21 (by decide) (fun c_4 => ?_) (fun c_4 => ?_)
        · skip
          refine lv_iinc (v := nI (k + 1)) (lv' := [(4, .int (nI (k + 1))), (0, .ref q0), (1, .int (nI c)), (2, .int (x)), (3, .int ((srcF (fun r => atF fk fs c (n - 1 - c) (nI r)) x k)))]) hx hb dX3_sourcesOf_31 hl (k := 4) rfl w_inc1 (by decide) rfl (fun ls hl => ?_)
          refine lv_goto (tgt := 5) hx hb dX3_sourcesOf_34 (by decide) ?_
          have he_5 : ((srcF (fun r => atF fk fs c (n - 1 - c) (nI r)) x k) : Int32) = (srcF (fun r => atF fk fs c (n - 1 - c) (nI r)) x (k + 1)) := by first | with_reducible rfl | exact (if_pos (c_4)).symm | exact (if_neg (c_4)).symm | (simp [hn1, hn6, hc, hk, c_2, c_4]; done) | omega | rfl
          have hl := lv_cong hl (show ([(4, .int (nI (k + 1))), (0, .ref q0), (1, .int (nI c)), (2, .int (x)), (3, .int ((srcF (fun r => atF fk fs c (n - 1 - c) (nI r)) x k)))] : List (Nat × Value)) = [(4, .int (nI ((k + 1)))), (0, .ref q0), (1, .int (nI c)), (2, .int (x)), (3, .int ((srcF (fun r => atF fk fs c (n - 1 - c) (nI r)) x (k + 1))))] by rw [← he_5])
          exact ih5 (k + 1) (by omega) (by first | omega | with_reducible assumption | (first | with_reducible rfl | exact (if_pos (c_4)).symm | exact (if_neg (c_4)).symm | (simp [hn1, hn6, hc, hk, c_2, c_4]; done) | omega | rfl)) ls (lv_sub hl [1, 2, 3, 4, 0] rfl)
        · skip
          refine lv_iload_n hx hb dX3_sourcesOf_24 rfl (lv_at hl 3 rfl) ?_
          refine lv_iconst (v := nI 1) hx hb dX3_sourcesOf_25 (by decide) ?_
          refine lv_iload hx hb dX3_sourcesOf_26 (lv_at hl 4 rfl) ?_
          refine lv_ishl hx hb dX3_sourcesOf_28 ?_
          refine lv_ior hx hb dX3_sourcesOf_29 ?_
          refine lv_istore_n (lv' := [(3, .int (((srcF (fun r => atF fk fs c (n - 1 - c) (nI r)) x k)) ||| ((nI 1) <<< ((nI k) &&& 31)))), (0, .ref q0), (1, .int (nI c)), (2, .int (x)), (4, .int (nI k))]) hx hb dX3_sourcesOf_30 rfl hl (by decide) rfl (fun ls hl => ?_)
          refine lv_iinc (v := nI (k + 1)) (lv' := [(4, .int (nI (k + 1))), (3, .int (((srcF (fun r => atF fk fs c (n - 1 - c) (nI r)) x k)) ||| ((nI 1) <<< ((nI k) &&& 31)))), (0, .ref q0), (1, .int (nI c)), (2, .int (x))]) hx hb dX3_sourcesOf_31 hl (k := 4) rfl w_inc1 (by decide) rfl (fun ls hl => ?_)
          refine lv_goto (tgt := 5) hx hb dX3_sourcesOf_34 (by decide) ?_
          have he_6 : (((srcF (fun r => atF fk fs c (n - 1 - c) (nI r)) x k)) ||| ((nI 1) <<< ((nI k) &&& 31)) : Int32) = (srcF (fun r => atF fk fs c (n - 1 - c) (nI r)) x (k + 1)) := by first | with_reducible rfl | exact (if_pos (c_4)).symm | exact (if_neg (c_4)).symm | (simp [hn1, hn6, hc, hk, c_2, c_4]; done) | omega | rfl
          have hl := lv_cong hl (show ([(4, .int (nI (k + 1))), (3, .int (((srcF (fun r => atF fk fs c (n - 1 - c) (nI r)) x k)) ||| ((nI 1) <<< ((nI k) &&& 31)))), (0, .ref q0), (1, .int (nI c)), (2, .int (x))] : List (Nat × Value)) = [(4, .int (nI ((k + 1)))), (3, .int ((srcF (fun r => atF fk fs c (n - 1 - c) (nI r)) x (k + 1)))), (0, .ref q0), (1, .int (nI c)), (2, .int (x))] by rw [← he_6])
          exact ih5 (k + 1) (by omega) (by first | omega | with_reducible assumption | (first | with_reducible rfl | exact (if_pos (c_4)).symm | exact (if_neg (c_4)).symm | (simp [hn1, hn6, hc, hk, c_2, c_4]; done) | omega | rfl)) ls (lv_sub hl [2, 3, 4, 1, 0] rfl)
  have he_7 : (nI 0 : Int32) = (srcF (fun r => atF fk fs c (n - 1 - c) (nI r)) x 0) := by first | with_reducible rfl | exact (if_pos (hc)).symm | exact (if_neg (hc)).symm | (simp [hn1, hn6, hc]; done) | omega | rfl
  have hl := lv_cong hl (show ([(4, .int (nI 0)), (3, .int (nI 0)), (0, .ref q0), (1, .int (nI c)), (2, .int (x))] : List (Nat × Value)) = [(4, .int (nI 0)), (3, .int ((srcF (fun r => atF fk fs c (n - 1 - c) (nI r)) x 0))), (0, .ref q0), (1, .int (nI c)), (2, .int (x))] by rw [← he_7])
  exact lp5 (12 - 0 + 1) (0) (Nat.lt_succ_self _) (by first | omega | with_reducible assumption | (first | with_reducible rfl | exact (if_pos (hc)).symm | exact (if_neg (hc)).symm | (simp [hn1, hn6, hc]; done) | omega | rfl)) ls (lv_sub hl [2, 3, 4, 1, 0] rfl)
set_option maxHeartbeats 4000000 in
set_option maxRecDepth 100000 in
theorem k_X3_unchangedAtTop (l : Launch) (dC : Nat → ClassId) (dI : Nat → Nat → Nat) (cI cZ : ClassId) (q0 q1 q2 q3 q4 q5 q6 q7 : Nat) (fk fs fn fi fc fw ft : Nat → Int32) (n h : Nat) (th tt : Int32) (cu : Int32) (hn1 : 1 ≤ n) (hn6 : n ≤ 6) : Met l yX3_unchangedAtTop wsX3_unchangedAtTop ({ frames := 2, cells := 0, slots := 0, locals := 47 }) (va_Pc [.ref q0, .int (cu)] (PR (dC, dI) cI cZ [(q0, .inr (2, [.ref q1, .ref q2, .ref q3, .ref q4, .ref q5, .ref q6, .ref q7, .int (nI n), .int (nI h), .int (th), .int (tt)])), (q1, .inl (cI, 6, .inl (fk))), (q2, .inl (cI, 6, .inl (fs))), (q3, .inl (cI, 6, .inl (fn))), (q4, .inl (cZ, 6, .inl (fi))), (q5, .inl (cI, 8, .inl (fc))), (q6, .inl (cI, 8, .inl (fw))), (q7, .inl (cI, 8, .inl (ft)))])) (QRi (nI (ucF fk (cuF fs cu) n))) 0 0 noF := by
  refine Met.ofW (cc := cX3_unchangedAtTop) (maxL := 4) (ret := (some .int)) (by decide) rfl ?_
  intro p e s m args below meth co s₁ B hml hv
  obtain ⟨rfl, hP, hK⟩ := hv
  have hx := B.exec
  have hb := B.bytes
  have hr := B.returns
  have hts := atoms_spec (ws := wsX3_unchangedAtTop) B.pre
  have hown : s.vm.findClass RX3 = some m.cls := findClass_of_methodNamed B.named
  have hlocks := B.notSynchronized
  have hl := lv_entry ([.ref q0, .int (cu)]) (n := 4) (Nat.le_of_ble_eq_true rfl)
  rw [lg_entry_eq]
  generalize (lg_sl ([.ref q0, .int (cu)]) ++ List.replicate (4 - (lg_sl ([.ref q0, .int (cu)])).length) Slot.unset).toArray = ls at hl ⊢
  have hl : lv_has ls 4 [(0, .ref q0), (1, .int (cu))] := hl
  refine lv_iconst (v := nI 0) hx hb dX3_unchangedAtTop_0 (by decide) ?_
  refine lv_istore_n (lv' := [(2, .int (nI 0)), (0, .ref q0), (1, .int (cu))]) hx hb dX3_unchangedAtTop_1 rfl hl (by decide) rfl (fun ls hl => ?_)
  refine lv_iconst (v := nI 0) hx hb dX3_unchangedAtTop_2 (by decide) ?_
  refine lv_istore_n (lv' := [(3, .int (nI 0)), (2, .int (nI 0)), (0, .ref q0), (1, .int (cu))]) hx hb dX3_unchangedAtTop_3 rfl hl (by decide) rfl (fun ls hl => ?_)
  have lp4 : ∀ (fuel : Nat) (k : Nat), 12 - k < fuel → (k ≤ 12) → ∀ (ls : Array Slot), lv_has ls 4 [(0, .ref q0), (1, .int (cu)), (2, .int (nI (unF (fun r => atF fk (cuF fs cu) 0 (n - 1) (nI r)) k))), (3, .int (nI k))] → W p l e (headSpec wsX3_unchangedAtTop ({ frames := 2, cells := 0, slots := 0, locals := 47 })).room s m ([.ref q0, .int (cu)] : List Value).toArray below meth co s.heap [] 0 0 (MQ below (QRi (nI (ucF fk (cuF fs cu) n))) ([.ref q0, .int (cu)] : List Value).toArray s 0 0 noF) (F0 m 4 ls []) := by
    intro fuel
    induction fuel with
    | zero => intro k h0; exact absurd h0 (Nat.not_lt_zero _)
    | succ fuel ih4 =>
      intro k hm_1 hk ls hl
      refine lv_iload_n hx hb dX3_unchangedAtTop_4 rfl (lv_at hl 3 rfl) ?_
      refine lv_bipush (v := nI 12) hx hb dX3_unchangedAtTop_5 (by decide) ?_
      refine w_ci_ge (tgt := 30) hx hb (by omega) (by omega) dX3_unchangedAtTop_7 (by decide) (fun c_2 => ?_) (fun c_2 => ?_)
      · skip
        refine lv_iload_n hx hb dX3_unchangedAtTop_30 rfl (lv_at hl 2 rfl) ?_
        exact retRi hx hb hr hlocks (by rw [show k = 12 by omega]; rfl) dX3_unchangedAtTop_31
      · skip
        refine lv_aload_n hx hb dX3_unchangedAtTop_10 rfl (lv_at hl 0 rfl) ?_
        refine lv_iconst (v := nI 0) hx hb dX3_unchangedAtTop_11 (by decide) ?_
        refine lv_iload_n hx hb dX3_unchangedAtTop_12 rfl (lv_at hl 3 rfl) ?_
        refine lv_iload_n hx hb dX3_unchangedAtTop_13 rfl (lv_at hl 1 rfl) ?_
        have hPc := hP.sub (ws' := [(q0, .inr (2, [.ref q1, .ref q2, .ref q3, .ref q4, .ref q5, .ref q6, .ref q7, .int (nI n), .int (nI h), .int (th), .int (tt)])), (q1, .inl (cI, 6, .inl (fk))), (q2, .inl (cI, 6, .inl (fs))), (q3, .inl (cI, 6, .inl (fn))), (q4, .inl (cZ, 6, .inl (fi))), (q5, .inl (cI, 8, .inl (fc))), (q6, .inl (cI, 8, .inl (fw))), (q7, .inl (cI, 8, .inl (ft)))]) [0, 1, 2, 3, 4, 5, 6, 7] rfl
        refine callRi (v := (atF fk (cuF fs cu) 0 (n - 1 - 0) (nI k))) (W.runV (As := [.int (nI 0), .int (nI k), .int (cu)]) (rest := []) ⟨hx, hb, hml, hown, hts⟩ (k_X3_atTop l dC dI cI cZ q0 q1 q2 q3 q4 q5 q6 q7 (fk) (fs) (fn) (fi) (fc) (fw) (ft) (n) (h) (th) (tt) (0) (nI k) (cu) (by first | omega | with_reducible assumption | (simp; omega)) (by first | omega | with_reducible assumption | (simp; omega)) (by first | omega | with_reducible assumption | (simp; omega))) (cwV 3 hts gX3_unchangedAtTop_X3_atTop rfl rfl rfl (by decide +kernel) ⟨Nat.le_of_ble_eq_true rfl, Nat.le_of_ble_eq_true rfl⟩) (preRV (q := (RX3, TX3, 11)) (ci := 2) hK hPc rfl rfl) rfl rfl hl.1 rfl (lv_room (Nat.le_of_ble_eq_true rfl)) dX3_unchangedAtTop_14 ⟨Nat.zero_le _, Nat.zero_le _⟩) ?_
        rw [show ((atF fk (cuF fs cu) 0 (n - 1 - 0) (nI k)) : Int32) = (atF fk (cuF fs cu) 0 (n - 1) (nI k)) from rfl]
        refine lv_iload_n hx hb dX3_unchangedAtTop_17 rfl (lv_at hl 3 rfl) ?_
        refine lv_icmp_ne (tgt := 24) hx hb dX3_unchangedAtTop_18 (by decide) (fun c_4 => ?_) (fun c_4 => ?_)
        · skip
          refine lv_iinc (v := nI (k + 1)) (lv' := [(3, .int (nI (k + 1))), (0, .ref q0), (1, .int (cu)), (2, .int (nI (unF (fun r => atF fk (cuF fs cu) 0 (n - 1) (nI r)) k)))]) hx hb dX3_unchangedAtTop_24 hl (k := 3) rfl w_inc1 (by decide) rfl (fun ls hl => ?_)
          refine lv_goto (tgt := 4) hx hb dX3_unchangedAtTop_27 (by decide) ?_
          have he_5 : (nI (unF (fun r => atF fk (cuF fs cu) 0 (n - 1) (nI r)) k) : Int32) = nI (unF (fun r => atF fk (cuF fs cu) 0 (n - 1) (nI r)) (k + 1)) := by first | exact congrArg nI (if_pos (c_4)).symm | exact congrArg nI (if_neg (c_4)).symm
          have hl := lv_cong hl (show ([(3, .int (nI (k + 1))), (0, .ref q0), (1, .int (cu)), (2, .int (nI (unF (fun r => atF fk (cuF fs cu) 0 (n - 1) (nI r)) k)))] : List (Nat × Value)) = [(3, .int (nI ((k + 1)))), (0, .ref q0), (1, .int (cu)), (2, .int (nI (unF (fun r => atF fk (cuF fs cu) 0 (n - 1) (nI r)) (k + 1))))] by rw [← he_5])
          exact ih4 (k + 1) (by omega) (by first | omega | with_reducible assumption | (first | with_reducible rfl | exact (if_pos (c_4)).symm | exact (if_neg (c_4)).symm | (simp [hn1, hn6, hk, c_2, c_4]; done) | omega | rfl)) ls (lv_sub hl [1, 2, 3, 0] rfl)
        · skip
          refine lv_iinc (v := nI (unF (fun r => atF fk (cuF fs cu) 0 (n - 1) (nI r)) k + 1)) (lv' := [(2, .int (nI (unF (fun r => atF fk (cuF fs cu) 0 (n - 1) (nI r)) k + 1))), (0, .ref q0), (1, .int (cu)), (3, .int (nI k))]) hx hb dX3_unchangedAtTop_21 hl (k := 2) rfl w_inc1 (by decide) rfl (fun ls hl => ?_)
          refine lv_iinc (v := nI (k + 1)) (lv' := [(3, .int (nI (k + 1))), (2, .int (nI (unF (fun r => atF fk (cuF fs cu) 0 (n - 1) (nI r)) k + 1))), (0, .ref q0), (1, .int (cu))]) hx hb dX3_unchangedAtTop_24 hl (k := 3) rfl w_inc1 (by decide) rfl (fun ls hl => ?_)
          refine lv_goto (tgt := 4) hx hb dX3_unchangedAtTop_27 (by decide) ?_
          have he_6 : (nI (unF (fun r => atF fk (cuF fs cu) 0 (n - 1) (nI r)) k + 1) : Int32) = nI (unF (fun r => atF fk (cuF fs cu) 0 (n - 1) (nI r)) (k + 1)) := by first | exact congrArg nI (if_pos (c_4)).symm | exact congrArg nI (if_neg (c_4)).symm
          have hl := lv_cong hl (show ([(3, .int (nI (k + 1))), (2, .int (nI (unF (fun r => atF fk (cuF fs cu) 0 (n - 1) (nI r)) k + 1))), (0, .ref q0), (1, .int (cu))] : List (Nat × Value)) = [(3, .int (nI ((k + 1)))), (2, .int (nI (unF (fun r => atF fk (cuF fs cu) 0 (n - 1) (nI r)) (k + 1)))), (0, .ref q0), (1, .int (cu))] by rw [← he_6])
          exact ih4 (k + 1) (by omega) (by first | omega | with_reducible assumption | (first | with_reducible rfl | exact (if_pos (c_4)).symm | exact (if_neg (c_4)).symm | (simp [hn1, hn6, hk, c_2, c_4]; done) | omega | rfl)) ls (lv_sub hl [2, 3, 1, 0] rfl)
  have he_7 : (nI 0 : Int32) = nI (unF (fun r => atF fk (cuF fs cu) 0 (n - 1) (nI r)) 0) := by first | with_reducible rfl | exact (if_pos (hn6)).symm | exact (if_neg (hn6)).symm | (simp [hn1, hn6]; done) | omega | rfl
  have hl := lv_cong hl (show ([(3, .int (nI 0)), (2, .int (nI 0)), (0, .ref q0), (1, .int (cu))] : List (Nat × Value)) = [(3, .int (nI 0)), (2, .int (nI (unF (fun r => atF fk (cuF fs cu) 0 (n - 1) (nI r)) 0))), (0, .ref q0), (1, .int (cu))] by rw [← he_7])
  exact lp4 (12 - 0 + 1) (0) (Nat.lt_succ_self _) (by first | omega | with_reducible assumption | (first | with_reducible rfl | exact (if_pos (hn6)).symm | exact (if_neg (hn6)).symm | (simp [hn1, hn6]; done) | omega | rfl)) ls (lv_sub hl [2, 3, 1, 0] rfl)
