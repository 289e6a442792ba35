set_option maxHeartbeats 4000000 in
set_option maxRecDepth 100000 in
theorem k_X3_thursdaysToTop (l : Launch) (dC : Nat → ClassId) (dI : Nat → Nat → Nat) (cI cZ : ClassId) (q0 q1 q2 q3 q4 q5 q6 q7 : Nat) (fk fs fn fi fc fw ft : Nat → Int32) (n h : Nat) (th tt : Int32) (hn6 : n ≤ 6) : Met l yX3_thursdaysToTop wsX3_thursdaysToTop ({ frames := 1, cells := 0, slots := 0, locals := 20 }) (va_Pc [.ref q0] (PR (dC, dI) cI cZ [(q0, .inr (2, [.ref q1, .ref q2, .ref q3, .ref q4, .ref q5, .ref q6, .ref q7, .int (nI n), .int (nI h), .int (th), .int (tt)])), (q1, .inl (cI, 6, .inl (fk))), (q2, .inl (cI, 6, .inl (fs))), (q3, .inl (cI, 6, .inl (fn))), (q4, .inl (cZ, 6, .inl (fi))), (q5, .inl (cI, 8, .inl (fc))), (q6, .inl (cI, 8, .inl (fw))), (q7, .inl (cI, 8, .inl (ft)))])) (QRi ((ttF fn fi n))) 0 0 noF := by
  refine Met.ofW (cc := cX3_thursdaysToTop) (maxL := 2) (ret := (some .int)) (by decide) rfl ?_
  intro p e s m args below meth co s₁ B hml hv
  obtain ⟨rfl, hP, hK⟩ := hv
  have hx := B.exec
  have hb := B.bytes
  have hr := B.returns
  have hts := atoms_spec (ws := wsX3_thursdaysToTop) B.pre
  have hown : s.vm.findClass RX3 = some m.cls := findClass_of_methodNamed B.named
  have hlocks := B.notSynchronized
  have inX3 : ∀ w ∈ u_ws RX3 TX3 11, w ∈ wsX3_thursdaysToTop := by decide +kernel
  have lf18 := hts (.fieldLink RX3 18 "ThursdayRungs$School" "known" "[I") (by decide +kernel)
  have lf21 := hts (.fieldLink RX3 21 "ThursdayRungs$School" "ill" "[Z") (by decide +kernel)
  have hl := lv_entry ([.ref q0]) (n := 2) (Nat.le_of_ble_eq_true rfl)
  rw [lg_entry_eq]
  generalize (lg_sl ([.ref q0]) ++ List.replicate (2 - (lg_sl ([.ref q0])).length) Slot.unset).toArray = ls at hl ⊢
  have hl : lv_has ls 2 [(0, .ref q0)] := hl
  refine lv_aload_n hx hb dX3_thursdaysToTop_0 rfl (lv_at hl 0 rfl) ?_
  have hPc := hP.sub (ws' := [(q0, .inr (2, [.ref q1, .ref q2, .ref q3, .ref q4, .ref q5, .ref q6, .ref q7, .int (nI n), .int (nI h), .int (th), .int (tt)])), (q1, .inl (cI, 6, .inl (fk))), (q2, .inl (cI, 6, .inl (fs))), (q3, .inl (cI, 6, .inl (fn))), (q4, .inl (cZ, 6, .inl (fi))), (q5, .inl (cI, 8, .inl (fc))), (q6, .inl (cI, 8, .inl (fw))), (q7, .inl (cI, 8, .inl (ft)))]) [0, 1, 2, 3, 4, 5, 6, 7] rfl
  refine callRi (v := (if (n = 0) then nI 1 else nI 0)) (W.runV (As := []) (rest := []) ⟨hx, hb, hml, hown, hts⟩ (k_X3_isNone l dC dI cI cZ q0 q1 q2 q3 q4 q5 q6 q7 (fk) (fs) (fn) (fi) (fc) (fw) (ft) (n) (h) (th) (tt) (by first | omega | with_reducible assumption | (simp; omega))) (cwV 0 hts gX3_thursdaysToTop_X3_isNone rfl rfl rfl (by decide +kernel) ⟨Nat.le_of_ble_eq_true rfl, Nat.le_of_ble_eq_true rfl⟩) (preRV (q := (RX3, TX3, 11)) (ci := 2) hK hPc rfl rfl) rfl rfl hl.1 rfl (lv_room (Nat.le_of_ble_eq_true rfl)) dX3_thursdaysToTop_1 ⟨Nat.zero_le _, Nat.zero_le _⟩) ?_
  refine w_ifeqB (tgt := 9) hx hb dX3_thursdaysToTop_4 (by decide) (fun c_1 => ?_) (fun c_1 => ?_)
  · skip
    refine lv_aload_n hx hb dX3_thursdaysToTop_9 rfl (lv_at hl 0 rfl) ?_
    refine va_get (D := (dC, dI)) (ci := 2) (v := .ref q3) (C := RX3) (T := TX3) (N := 11) hx hb hts inX3 hown hK hP 0 rfl rfl 2 (by decide) lf18 (fun _ h9 => h9) rfl dX3_thursdaysToTop_10 ?_
    refine lv_aload_n hx hb dX3_thursdaysToTop_13 rfl (lv_at hl 0 rfl) ?_
    have hPc := hP.sub (ws' := [(q0, .inr (2, [.ref q1, .ref q2, .ref q3, .ref q4, .ref q5, .ref q6, .ref q7, .int (nI n), .int (nI h), .int (th), .int (tt)])), (q1, .inl (cI, 6, .inl (fk))), (q2, .inl (cI, 6, .inl (fs))), (q3, .inl (cI, 6, .inl (fn))), (q4, .inl (cZ, 6, .inl (fi))), (q5, .inl (cI, 8, .inl (fc))), (q6, .inl (cI, 8, .inl (fw))), (q7, .inl (cI, 8, .inl (ft)))]) [0, 1, 2, 3, 4, 5, 6, 7] rfl
    refine callRi (v := nI (n - 1)) (W.runV (As := []) (rest := [.ref q3]) ⟨hx, hb, hml, hown, hts⟩ (k_X3_top l dC dI cI cZ q0 q1 q2 q3 q4 q5 q6 q7 (fk) (fs) (fn) (fi) (fc) (fw) (ft) (n) (h) (th) (tt) (by first | omega | with_reducible assumption | (simp; omega)) (by first | omega | with_reducible assumption | (simp; omega))) (cwV 0 hts gX3_thursdaysToTop_X3_top rfl rfl rfl (by decide +kernel) ⟨Nat.le_of_ble_eq_true rfl, Nat.le_of_ble_eq_true rfl⟩) (preRV (q := (RX3, TX3, 11)) (ci := 2) hK hPc rfl rfl) rfl rfl hl.1 rfl (lv_room (Nat.le_of_ble_eq_true rfl)) dX3_thursdaysToTop_14 ⟨Nat.zero_le _, Nat.zero_le _⟩) ?_
    refine w_iald (k := n - 1) hx hb hK hP 3 0 rfl rfl (by omega) (by decide) dX3_thursdaysToTop_17 ?_
    refine lv_iconst (v := -1) hx hb dX3_thursdaysToTop_18 (by decide) ?_
    refine lv_icmp_eq (tgt := 24) hx hb dX3_thursdaysToTop_19 (by decide) (fun c_2 => ?_) (fun c_2 => ?_)
    · skip
      refine lv_aload_n hx hb dX3_thursdaysToTop_24 rfl (lv_at hl 0 rfl) ?_
      have hPc := hP.sub (ws' := [(q0, .inr (2, [.ref q1, .ref q2, .ref q3, .ref q4, .ref q5, .ref q6, .ref q7, .int (nI n), .int (nI h), .int (th), .int (tt)])), (q1, .inl (cI, 6, .inl (fk))), (q2, .inl (cI, 6, .inl (fs))), (q3, .inl (cI, 6, .inl (fn))), (q4, .inl (cZ, 6, .inl (fi))), (q5, .inl (cI, 8, .inl (fc))), (q6, .inl (cI, 8, .inl (fw))), (q7, .inl (cI, 8, .inl (ft)))]) [0, 1, 2, 3, 4, 5, 6, 7] rfl
      refine callRi (v := nI (n - 1)) (W.runV (As := []) (rest := []) ⟨hx, hb, hml, hown, hts⟩ (k_X3_top l dC dI cI cZ q0 q1 q2 q3 q4 q5 q6 q7 (fk) (fs) (fn) (fi) (fc) (fw) (ft) (n) (h) (th) (tt) (by first | omega | with_reducible assumption | (simp; omega)) (by first | omega | with_reducible assumption | (simp; omega))) (cwV 0 hts gX3_thursdaysToTop_X3_top rfl rfl rfl (by decide +kernel) ⟨Nat.le_of_ble_eq_true rfl, Nat.le_of_ble_eq_true rfl⟩) (preRV (q := (RX3, TX3, 11)) (ci := 2) hK hPc rfl rfl) rfl rfl hl.1 rfl (lv_room (Nat.le_of_ble_eq_true rfl)) dX3_thursdaysToTop_25 ⟨Nat.zero_le _, Nat.zero_le _⟩) ?_
      refine lv_istore_n (lv' := [(1, .int (nI (n - 1))), (0, .ref q0)]) hx hb dX3_thursdaysToTop_28 rfl hl (by decide) rfl (fun ls hl => ?_)
      have lp29 : ∀ (fuel : Nat) (j : Nat), j < fuel → (j ≤ n ∧ 1 ≤ n) → (((ttF fn fi n)) = soF fn fi n j) → ∀ (ls : Array Slot), lv_has ls 2 [(0, .ref q0), (1, .int ((dn j)))] → W p l e (headSpec wsX3_thursdaysToTop ({ frames := 1, cells := 0, slots := 0, locals := 20 })).room s m ([.ref q0] : List Value).toArray below meth co s.heap [] 0 0 (MQ below (QRi ((ttF fn fi n))) ([.ref q0] : List Value).toArray s 0 0 noF) (F0 m 29 ls []) := by
        intro fuel
        induction fuel with
        | zero => intro j h0; exact absurd h0 (Nat.not_lt_zero _)
        | succ fuel ih29 =>
          intro j hm_3 hj hL ls hl
          refine lv_iload_n hx hb dX3_thursdaysToTop_29 rfl (lv_at hl 1 rfl) ?_
          refine lv_if_lt (tgt := 67) hx hb dX3_thursdaysToTop_30 (by decide) (fun c_4 => ?_) (fun c_4 => ?_)
          · skip
            obtain rfl := dn_neg c_4 (by omega)
            refine lv_iconst (v := -1) hx hb dX3_thursdaysToTop_67 (by decide) ?_
            exact retRi hx hb hr hlocks (by rw [hL]; rfl) dX3_thursdaysToTop_68
          · skip
            obtain ⟨i, rfl⟩ := dn_pos c_4 (by omega)
            rw [dn_s] at hl
            refine lv_aload_n hx hb dX3_thursdaysToTop_33 rfl (lv_at hl 0 rfl) ?_
            refine va_get (D := (dC, dI)) (ci := 2) (v := .ref q4) (C := RX3) (T := TX3) (N := 11) hx hb hts inX3 hown hK hP 0 rfl rfl 3 (by decide) lf21 (fun _ h9 => h9) rfl dX3_thursdaysToTop_34 ?_
            refine lv_iload_n hx hb dX3_thursdaysToTop_37 rfl (lv_at hl 1 rfl) ?_
            refine w_zald (k := i) hx hb hK hP 4 1 rfl rfl (by omega) (by decide) dX3_thursdaysToTop_38 ?_
            refine lv_if_eq (tgt := 44) hx hb dX3_thursdaysToTop_39 (by decide) (fun c_5 => ?_) (fun c_5 => ?_)
            · skip
              refine lv_aload_n hx hb dX3_thursdaysToTop_44 rfl (lv_at hl 0 rfl) ?_
              refine va_get (D := (dC, dI)) (ci := 2) (v := .ref q3) (C := RX3) (T := TX3) (N := 11) hx hb hts inX3 hown hK hP 0 rfl rfl 2 (by decide) lf18 (fun _ h9 => h9) rfl dX3_thursdaysToTop_45 ?_
              refine lv_iload_n hx hb dX3_thursdaysToTop_48 rfl (lv_at hl 1 rfl) ?_
              refine w_iald (k := i) hx hb hK hP 3 0 rfl rfl (by omega) (by decide) dX3_thursdaysToTop_49 ?_
              refine lv_iconst (v := -1) hx hb dX3_thursdaysToTop_50 (by decide) ?_
              refine lv_icmp_eq (tgt := 61) hx hb dX3_thursdaysToTop_51 (by decide) (fun c_6 => ?_) (fun c_6 => ?_)
              · skip
                refine lv_iinc (v := (nI i) + Int32.ofInt (-1)) (lv' := [(1, .int ((nI i) + Int32.ofInt (-1))), (0, .ref q0)]) hx hb dX3_thursdaysToTop_61 hl (k := 1) rfl rfl (by decide) rfl (fun ls hl => ?_)
                refine lv_goto (tgt := 29) hx hb dX3_thursdaysToTop_64 (by decide) ?_
                have he_7 : ((nI i) + Int32.ofInt (-1) : Int32) = (dn i) := by exact dn_b
                have hl := lv_cong hl (show ([(1, .int ((nI i) + Int32.ofInt (-1))), (0, .ref q0)] : List (Nat × Value)) = [(1, .int ((dn i))), (0, .ref q0)] by rw [← he_7])
                exact ih29 (i) (by omega) (by first | omega | with_reducible assumption | (first | with_reducible rfl | exact (if_pos (c_6)).symm | exact (if_neg (c_6)).symm | (simp [hn6, c_1, c_2, hj, hL, c_4, c_5, c_6]; done) | omega | rfl)) (by rw [hL, soF, if_neg (by simp [c_5]), if_neg (by simp [c_6])]) ls (lv_sub hl [1, 0] rfl)
              · skip
                refine lv_aload_n hx hb dX3_thursdaysToTop_54 rfl (lv_at hl 0 rfl) ?_
                have hPc := hP.sub (ws' := [(q0, .inr (2, [.ref q1, .ref q2, .ref q3, .ref q4, .ref q5, .ref q6, .ref q7, .int (nI n), .int (nI h), .int (th), .int (tt)])), (q1, .inl (cI, 6, .inl (fk))), (q2, .inl (cI, 6, .inl (fs))), (q3, .inl (cI, 6, .inl (fn))), (q4, .inl (cZ, 6, .inl (fi))), (q5, .inl (cI, 8, .inl (fc))), (q6, .inl (cI, 8, .inl (fw))), (q7, .inl (cI, 8, .inl (ft)))]) [0, 1, 2, 3, 4, 5, 6, 7] rfl
                refine callRi (v := nI (n - 1)) (W.runV (As := []) (rest := []) ⟨hx, hb, hml, hown, hts⟩ (k_X3_top l dC dI cI cZ q0 q1 q2 q3 q4 q5 q6 q7 (fk) (fs) (fn) (fi) (fc) (fw) (ft) (n) (h) (th) (tt) (by first | omega | with_reducible assumption | (simp; omega)) (by first | omega | with_reducible assumption | (simp; omega))) (cwV 0 hts gX3_thursdaysToTop_X3_top rfl rfl rfl (by decide +kernel) ⟨Nat.le_of_ble_eq_true rfl, Nat.le_of_ble_eq_true rfl⟩) (preRV (q := (RX3, TX3, 11)) (ci := 2) hK hPc rfl rfl) rfl rfl hl.1 rfl (lv_room (Nat.le_of_ble_eq_true rfl)) dX3_thursdaysToTop_55 ⟨Nat.zero_le _, Nat.zero_le _⟩) ?_
                refine lv_iload_n hx hb dX3_thursdaysToTop_58 rfl (lv_at hl 1 rfl) ?_
                refine w_subN hx hb (by omega) dX3_thursdaysToTop_59 ?_
                exact retRi hx hb hr hlocks (by rw [hL, soF, if_neg (by simp [c_5]), if_pos (by simpa using c_6)]) dX3_thursdaysToTop_60
            · skip
              refine lv_iconst (v := -1) hx hb dX3_thursdaysToTop_42 (by decide) ?_
              exact retRi hx hb hr hlocks (by rw [hL, soF, if_pos (by simpa using c_5)]) dX3_thursdaysToTop_43
      have he_8 : (nI (n - 1) : Int32) = (dn n) := by exact dn_top (by omega)
      have hl := lv_cong hl (show ([(1, .int (nI (n - 1))), (0, .ref q0)] : List (Nat × Value)) = [(1, .int ((dn n))), (0, .ref q0)] by rw [← he_8])
      exact lp29 (n + 1) (n) (Nat.lt_succ_self _) (by first | omega | with_reducible assumption | (first | with_reducible rfl | exact (if_pos (c_2)).symm | exact (if_neg (c_2)).symm | (simp [hn6, c_1, c_2]; done) | omega | rfl)) (by simp [ttF, hn6, c_1, c_2]; try omega) ls (lv_sub hl [1, 0] rfl)
    · skip
      refine lv_iconst (v := nI 0) hx hb dX3_thursdaysToTop_22 (by decide) ?_
      exact retRi hx hb hr hlocks (by simp [ttF, hn6, c_1, c_2]) dX3_thursdaysToTop_23
  · skip
    refine lv_iconst (v := -1) hx hb dX3_thursdaysToTop_7 (by decide) ?_
    exact retRi hx hb hr hlocks (by simp [ttF, hn6, c_1]) dX3_thursdaysToTop_8
