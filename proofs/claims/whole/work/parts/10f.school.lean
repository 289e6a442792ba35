set_option maxHeartbeats 4000000 in
set_option maxRecDepth 100000 in
theorem k_X3_explainsHeard (l : Launch) (dC : Nat → ClassId) (dI : Nat → Nat → Nat) (cI cZ : ClassId) (q0 q1 q2 q3 q4 q5 q6 q7 : Nat) (fk fs fn fi fc fw ft : Nat → Int32) (n h : Nat) (th tt : Int32) (c : Nat) (sl : Int32) (hh8 : h ≤ 8) (hc : c < 6) : Met l yX3_explainsHeard wsX3_explainsHeard ({ frames := 1, cells := 0, slots := 0, locals := 22 }) (va_Pc [.ref q0, .int (nI c), .int (sl)] (PR (dC, dI) cI cZ [(q0, .inr (2, [.ref q1, .ref q2, .ref q3, .ref q4, .ref q5, .ref q6, .ref q7, .int (nI n), .int (nI h), .int (th), .int (tt)])), (q1, .inl (cI, 6, .inl (fk))), (q2, .inl (cI, 6, .inl (fs))), (q3, .inl (cI, 6, .inl (fn))), (q4, .inl (cZ, 6, .inl (fi))), (q5, .inl (cI, 8, .inl (fc))), (q6, .inl (cI, 8, .inl (fw))), (q7, .inl (cI, 8, .inl (ft)))])) (QRi ((if (exP fc fw ft (fk c) (nI c) sl h) then nI 1 else nI 0))) 0 0 noF := by
  refine Met.ofW (cc := cX3_explainsHeard) (maxL := 4) (ret := (some .boolean)) (by decide) rfl ?_
  intro p e s m args below meth co s₁ B hml hv
  obtain ⟨rfl, hP, hK⟩ := hv
  have hx := B.exec
  have hb := B.bytes
  have hr := B.returns
  have hts := atoms_spec (ws := wsX3_explainsHeard) B.pre
  have hown : s.vm.findClass RX3 = some m.cls := findClass_of_methodNamed B.named
  have hlocks := B.notSynchronized
  have inX3 : ∀ w ∈ u_ws RX3 TX3 11, w ∈ wsX3_explainsHeard := by decide +kernel
  have lf11 := hts (.fieldLink RX3 11 "ThursdayRungs$School" "kinds" "[I") (by decide +kernel)
  have lf25 := hts (.fieldLink RX3 25 "ThursdayRungs$School" "heardChild" "[I") (by decide +kernel)
  have lf28 := hts (.fieldLink RX3 28 "ThursdayRungs$School" "heardKnew" "[I") (by decide +kernel)
  have lf31 := hts (.fieldLink RX3 31 "ThursdayRungs$School" "heardTaught" "[I") (by decide +kernel)
  have lf38 := hts (.fieldLink RX3 38 "ThursdayRungs$School" "heard" "I") (by decide +kernel)
  have hl := lv_entry ([.ref q0, .int (nI c), .int (sl)]) (n := 4) (Nat.le_of_ble_eq_true rfl)
  rw [lg_entry_eq]
  generalize (lg_sl ([.ref q0, .int (nI c), .int (sl)]) ++ List.replicate (4 - (lg_sl ([.ref q0, .int (nI c), .int (sl)])).length) Slot.unset).toArray = ls at hl ⊢
  have hl : lv_has ls 4 [(0, .ref q0), (1, .int (nI c)), (2, .int (sl))] := hl
  refine lv_iconst (v := nI 0) hx hb dX3_explainsHeard_0 (by decide) ?_
  refine lv_istore_n (lv' := [(3, .int (nI 0)), (0, .ref q0), (1, .int (nI c)), (2, .int (sl))]) hx hb dX3_explainsHeard_1 rfl hl (by decide) rfl (fun ls hl => ?_)
  have lp2 : ∀ (fuel : Nat) (k : Nat), h - k < fuel → (k ≤ h) → (exP fc fw ft (fk c) (nI c) sl k) → ∀ (ls : Array Slot), lv_has ls 4 [(0, .ref q0), (1, .int (nI c)), (2, .int (sl)), (3, .int (nI k))] → W p l e (headSpec wsX3_explainsHeard ({ frames := 1, cells := 0, slots := 0, locals := 22 })).room s m ([.ref q0, .int (nI c), .int (sl)] : List Value).toArray below meth co s.heap [] 0 0 (MQ below (QRi ((if (exP fc fw ft (fk c) (nI c) sl h) then nI 1 else nI 0))) ([.ref q0, .int (nI c), .int (sl)] : List Value).toArray s 0 0 noF) (F0 m 2 ls []) := by
    intro fuel
    induction fuel with
    | zero => intro k h0; exact absurd h0 (Nat.not_lt_zero _)
    | succ fuel ih2 =>
      intro k hm_1 hk hL ls hl
      refine lv_iload_n hx hb dX3_explainsHeard_2 rfl (lv_at hl 3 rfl) ?_
      refine lv_aload_n hx hb dX3_explainsHeard_3 rfl (lv_at hl 0 rfl) ?_
      refine va_get (D := (dC, dI)) (ci := 2) (v := .int (nI h)) (C := RX3) (T := TX3) (N := 11) hx hb hts inX3 hown hK hP 0 rfl rfl 8 (by decide) lf38 (fun _ h9 => h9) rfl dX3_explainsHeard_4 ?_
      refine w_ci_ge (tgt := 53) hx hb (by omega) (by omega) dX3_explainsHeard_7 (by decide) (fun c_2 => ?_) (fun c_2 => ?_)
      · skip
        refine lv_iconst (v := nI 1) hx hb dX3_explainsHeard_53 (by decide) ?_
        exact retRz hx hb hr hlocks rfl (by exact w_ite1 (by rw [show h = k by omega]; exact hL)) dX3_explainsHeard_54
      · skip
        refine lv_aload_n hx hb dX3_explainsHeard_10 rfl (lv_at hl 0 rfl) ?_
        refine va_get (D := (dC, dI)) (ci := 2) (v := .ref q5) (C := RX3) (T := TX3) (N := 11) hx hb hts inX3 hown hK hP 0 rfl rfl 4 (by decide) lf25 (fun _ h9 => h9) rfl dX3_explainsHeard_11 ?_
        refine lv_iload_n hx hb dX3_explainsHeard_14 rfl (lv_at hl 3 rfl) ?_
        refine w_iald (k := k) hx hb hK hP 5 0 rfl rfl (by omega) (by decide) dX3_explainsHeard_15 ?_
        refine lv_iload_n hx hb dX3_explainsHeard_16 rfl (lv_at hl 1 rfl) ?_
        refine lv_icmp_ne (tgt := 47) hx hb dX3_explainsHeard_17 (by decide) (fun c_3 => ?_) (fun c_3 => ?_)
        · skip
          refine lv_iinc (v := nI (k + 1)) (lv' := [(3, .int (nI (k + 1))), (0, .ref q0), (1, .int (nI c)), (2, .int (sl))]) hx hb dX3_explainsHeard_47 hl (k := 3) rfl w_inc1 (by decide) rfl (fun ls hl => ?_)
          refine lv_goto (tgt := 2) hx hb dX3_explainsHeard_50 (by decide) ?_
          exact ih2 (k + 1) (by omega) (by first | omega | with_reducible assumption | (first | with_reducible rfl | exact (if_pos (c_3)).symm | exact (if_neg (c_3)).symm | (simp [hh8, hc, hk, hL, c_2, c_3]; done) | omega | rfl)) (by exact lt_s hL (by first | exact fun _ => c_3 | exact fun q => absurd q c_3)) ls (lv_sub hl [1, 2, 3, 0] rfl)
        · skip
          refine lv_aload_n hx hb dX3_explainsHeard_20 rfl (lv_at hl 0 rfl) ?_
          refine va_get (D := (dC, dI)) (ci := 2) (v := .ref q1) (C := RX3) (T := TX3) (N := 11) hx hb hts inX3 hown hK hP 0 rfl rfl 0 (by decide) lf11 (fun _ h9 => h9) rfl dX3_explainsHeard_21 ?_
          refine lv_iload_n hx hb dX3_explainsHeard_24 rfl (lv_at hl 1 rfl) ?_
          refine w_iald (k := c) hx hb hK hP 1 0 rfl rfl (by omega) (by decide) dX3_explainsHeard_25 ?_
          refine lv_iload_n hx hb dX3_explainsHeard_26 rfl (lv_at hl 2 rfl) ?_
          refine lv_aload_n hx hb dX3_explainsHeard_27 rfl (lv_at hl 0 rfl) ?_
          refine va_get (D := (dC, dI)) (ci := 2) (v := .ref q6) (C := RX3) (T := TX3) (N := 11) hx hb hts inX3 hown hK hP 0 rfl rfl 5 (by decide) lf28 (fun _ h9 => h9) rfl dX3_explainsHeard_28 ?_
          refine lv_iload_n hx hb dX3_explainsHeard_31 rfl (lv_at hl 3 rfl) ?_
          refine w_iald (k := k) hx hb hK hP 6 0 rfl rfl (by omega) (by decide) dX3_explainsHeard_32 ?_
          have hPc := hP.sub (ws' := []) [] rfl
          refine callRi (v := (tb (fk c) sl (fw k))) (W.runS (As := [.int (fk c), .int (sl), .int (fw k)]) (rest := []) ⟨hx, hb, hml, hown, hts⟩ (k_X1_passesOn l dC dI cI cZ (fk c) (sl) (fw k)) (va_cwS 3 hts gX3_explainsHeard_X1_passesOn rfl rfl rfl (by decide +kernel) ⟨Nat.le_of_ble_eq_true rfl, Nat.le_of_ble_eq_true rfl⟩) (preRS hK hPc) rfl rfl hl.1 rfl (lv_room (Nat.le_of_ble_eq_true rfl)) dX3_explainsHeard_33 ⟨Nat.zero_le _, Nat.zero_le _⟩) ?_
          refine lv_aload_n hx hb dX3_explainsHeard_36 rfl (lv_at hl 0 rfl) ?_
          refine va_get (D := (dC, dI)) (ci := 2) (v := .ref q7) (C := RX3) (T := TX3) (N := 11) hx hb hts inX3 hown hK hP 0 rfl rfl 6 (by decide) lf31 (fun _ h9 => h9) rfl dX3_explainsHeard_37 ?_
          refine lv_iload_n hx hb dX3_explainsHeard_40 rfl (lv_at hl 3 rfl) ?_
          refine w_iald (k := k) hx hb hK hP 7 0 rfl rfl (by omega) (by decide) dX3_explainsHeard_41 ?_
          refine lv_icmp_eq (tgt := 47) hx hb dX3_explainsHeard_42 (by decide) (fun c_4 => ?_) (fun c_4 => ?_)
          · skip
            refine lv_iinc (v := nI (k + 1)) (lv' := [(3, .int (nI (k + 1))), (0, .ref q0), (1, .int (nI c)), (2, .int (sl))]) hx hb dX3_explainsHeard_47 hl (k := 3) rfl w_inc1 (by decide) rfl (fun ls hl => ?_)
            refine lv_goto (tgt := 2) hx hb dX3_explainsHeard_50 (by decide) ?_
            exact ih2 (k + 1) (by omega) (by first | omega | with_reducible assumption | (first | with_reducible rfl | exact (if_pos (c_4)).symm | exact (if_neg (c_4)).symm | (simp [hh8, hc, hk, hL, c_2, c_3, c_4]; done) | omega | rfl)) (by exact lt_s hL (by first | exact fun _ => c_4 | exact fun q => absurd q c_4)) ls (lv_sub hl [1, 2, 3, 0] rfl)
          · skip
            refine lv_iconst (v := nI 0) hx hb dX3_explainsHeard_45 (by decide) ?_
            exact retRz hx hb hr hlocks rfl (by exact w_ite0 (fun q => c_4 (q k (by omega) c_3))) dX3_explainsHeard_46
  exact lp2 (h - 0 + 1) (0) (Nat.lt_succ_self _) (by first | omega | with_reducible assumption | (first | with_reducible rfl | exact (if_pos (hc)).symm | exact (if_neg (hc)).symm | (simp [hh8, hc]; done) | omega | rfl)) (by intro i hi; omega) ls (lv_sub hl [1, 2, 3, 0] rfl)
set_option maxHeartbeats 4000000 in
set_option maxRecDepth 100000 in
theorem k_X3_possibleSlips (l : Launch) (dC : Nat → ClassId) (dI : Nat → Nat → Nat) (cI cZ : ClassId) (q0 q1 q2 q3 q4 q5 q6 q7 : Nat) (fk fs fn fi fc fw ft : Nat → Int32) (n h : Nat) (th tt : Int32) (c : Nat) (hh8 : h ≤ 8) (hc : c < 6) : Met l yX3_possibleSlips wsX3_possibleSlips ({ frames := 2, cells := 0, slots := 0, locals := 45 }) (va_Pc [.ref q0, .int (nI c)] (PR (dC, dI) cI cZ [(q0, .inr (2, [.ref q1, .ref q2, .ref q3, .ref q4, .ref q5, .ref q6, .ref q7, .int (nI n), .int (nI h), .int (th), .int (tt)])), (q1, .inl (cI, 6, .inl (fk))), (q2, .inl (cI, 6, .inl (fs))), (q3, .inl (cI, 6, .inl (fn))), (q4, .inl (cZ, 6, .inl (fi))), (q5, .inl (cI, 8, .inl (fc))), (q6, .inl (cI, 8, .inl (fw))), (q7, .inl (cI, 8, .inl (ft)))])) (QRi ((slF fc fw ft (fk c) (nI c) h 10))) 0 0 noF := by
  refine Met.ofW (cc := cX3_possibleSlips) (maxL := 4) (ret := (some .int)) (by decide) rfl ?_
  intro p e s m args below meth co s₁ B hml hv
  obtain ⟨rfl, hP, hK⟩ := hv
  have hx := B.exec
  have hb := B.bytes
  have hr := B.returns
  have hts := atoms_spec (ws := wsX3_possibleSlips) B.pre
  have hown : s.vm.findClass RX3 = some m.cls := findClass_of_methodNamed B.named
  have hlocks := B.notSynchronized
  have hl := lv_entry ([.ref q0, .int (nI c)]) (n := 4) (Nat.le_of_ble_eq_true rfl)
  rw [lg_entry_eq]
  generalize (lg_sl ([.ref q0, .int (nI c)]) ++ List.replicate (4 - (lg_sl ([.ref q0, .int (nI c)])).length) Slot.unset).toArray = ls at hl ⊢
  have hl : lv_has ls 4 [(0, .ref q0), (1, .int (nI c))] := hl
  refine lv_iconst (v := nI 0) hx hb dX3_possibleSlips_0 (by decide) ?_
  refine lv_istore_n (lv' := [(2, .int (nI 0)), (0, .ref q0), (1, .int (nI c))]) hx hb dX3_possibleSlips_1 rfl hl (by decide) rfl (fun ls hl => ?_)
  refine lv_iconst (v := nI 0) hx hb dX3_possibleSlips_2 (by decide) ?_
  refine lv_istore_n (lv' := [(3, .int (nI 0)), (2, .int (nI 0)), (0, .ref q0), (1, .int (nI c))]) hx hb dX3_possibleSlips_3 rfl hl (by decide) rfl (fun ls hl => ?_)
  have lp4 : ∀ (fuel : Nat) (k : Nat), 10 - k < fuel → (k ≤ 10) → ∀ (ls : Array Slot), lv_has ls 4 [(0, .ref q0), (1, .int (nI c)), (2, .int ((slF fc fw ft (fk c) (nI c) h k))), (3, .int (nI k))] → W p l e (headSpec wsX3_possibleSlips ({ frames := 2, cells := 0, slots := 0, locals := 45 })).room s m ([.ref q0, .int (nI c)] : List Value).toArray below meth co s.heap [] 0 0 (MQ below (QRi ((slF fc fw ft (fk c) (nI c) h 10))) ([.ref q0, .int (nI c)] : List Value).toArray s 0 0 noF) (F0 m 4 ls []) := by
    intro fuel
    induction fuel with
    | zero => intro k h0; exact absurd h0 (Nat.not_lt_zero _)
    | succ fuel ih4 =>
      intro k hm_1 hk ls hl
      refine lv_iload_n hx hb dX3_possibleSlips_4 rfl (lv_at hl 3 rfl) ?_
      refine lv_bipush (v := nI 10) hx hb dX3_possibleSlips_5 (by decide) ?_
      refine w_ci_ge (tgt := 31) hx hb (by omega) (by omega) dX3_possibleSlips_7 (by decide) (fun c_2 => ?_) (fun c_2 => ?_)
      · skip
        refine lv_iload_n hx hb dX3_possibleSlips_31 rfl (lv_at hl 2 rfl) ?_
        exact retRi hx hb hr hlocks (by rw [show k = 10 by omega]) dX3_possibleSlips_32
      · skip
        refine lv_aload_n hx hb dX3_possibleSlips_10 rfl (lv_at hl 0 rfl) ?_
        refine lv_iload_n hx hb dX3_possibleSlips_11 rfl (lv_at hl 1 rfl) ?_
        refine lv_iload_n hx hb dX3_possibleSlips_12 rfl (lv_at hl 3 rfl) ?_
        have hPc := hP.sub (ws' := [(q0, .inr (2, [.ref q1, .ref q2, .ref q3, .ref q4, .ref q5, .ref q6, .ref q7, .int (nI n), .int (nI h), .int (th), .int (tt)])), (q1, .inl (cI, 6, .inl (fk))), (q2, .inl (cI, 6, .inl (fs))), (q3, .inl (cI, 6, .inl (fn))), (q4, .inl (cZ, 6, .inl (fi))), (q5, .inl (cI, 8, .inl (fc))), (q6, .inl (cI, 8, .inl (fw))), (q7, .inl (cI, 8, .inl (ft)))]) [0, 1, 2, 3, 4, 5, 6, 7] rfl
        refine callRi (v := (if (exP fc fw ft (fk c) (nI c) (nI k) h) then nI 1 else nI 0)) (W.runV (As := [.int (nI c), .int (nI k)]) (rest := []) ⟨hx, hb, hml, hown, hts⟩ (k_X3_explainsHeard l dC dI cI cZ q0 q1 q2 q3 q4 q5 q6 q7 (fk) (fs) (fn) (fi) (fc) (fw) (ft) (n) (h) (th) (tt) (c) (nI k) (by first | omega | with_reducible assumption | (simp; omega)) (by first | omega | with_reducible assumption | (simp; omega))) (cwV 2 hts gX3_possibleSlips_X3_explainsHeard rfl rfl rfl (by decide +kernel) ⟨Nat.le_of_ble_eq_true rfl, Nat.le_of_ble_eq_true rfl⟩) (preRV (q := (RX3, TX3, 11)) (ci := 2) hK hPc rfl rfl) rfl rfl hl.1 rfl (lv_room (Nat.le_of_ble_eq_true rfl)) dX3_possibleSlips_13 ⟨Nat.zero_le _, Nat.zero_le _⟩) ?_
        refine w_ifeqB (tgt := 25) hx hb dX3_possibleSlips_16 (by decide) (fun c_3 => ?_) (fun c_3 => ?_)
        · skip
          refine lv_iinc (v := nI (k + 1)) (lv' := [(3, .int (nI (k + 1))), (0, .ref q0), (1, .int (nI c)), (2, .int ((slF fc fw ft (fk c) (nI c) h k)))]) hx hb dX3_possibleSlips_25 hl (k := 3) rfl w_inc1 (by decide) rfl (fun ls hl => ?_)
          refine lv_goto (tgt := 4) hx hb dX3_possibleSlips_28 (by decide) ?_
          have he_4 : ((slF fc fw ft (fk c) (nI c) h k) : Int32) = (slF fc fw ft (fk c) (nI c) h (k + 1)) := by first | with_reducible rfl | exact (if_pos (c_3)).symm | exact (if_neg (c_3)).symm | (simp [hh8, hc, hk, c_2, c_3]; done) | omega | rfl
          have hl := lv_cong hl (show ([(3, .int (nI (k + 1))), (0, .ref q0), (1, .int (nI c)), (2, .int ((slF fc fw ft (fk c) (nI c) h k)))] : List (Nat × Value)) = [(3, .int (nI ((k + 1)))), (0, .ref q0), (1, .int (nI c)), (2, .int ((slF fc fw ft (fk c) (nI c) h (k + 1))))] by rw [← he_4])
          exact ih4 (k + 1) (by omega) (by first | omega | with_reducible assumption | (first | with_reducible rfl | exact (if_pos (c_3)).symm | exact (if_neg (c_3)).symm | (simp [hh8, hc, hk, c_2, c_3]; done) | omega | rfl)) ls (lv_sub hl [1, 2, 3, 0] rfl)
        · skip
          refine lv_iload_n hx hb dX3_possibleSlips_19 rfl (lv_at hl 2 rfl) ?_
          refine lv_iconst (v := nI 1) hx hb dX3_possibleSlips_20 (by decide) ?_
          refine lv_iload_n hx hb dX3_possibleSlips_21 rfl (lv_at hl 3 rfl) ?_
          refine lv_ishl hx hb dX3_possibleSlips_22 ?_
          refine lv_ior hx hb dX3_possibleSlips_23 ?_
          refine lv_istore_n (lv' := [(2, .int (((slF fc fw ft (fk c) (nI c) h k)) ||| ((nI 1) <<< ((nI k) &&& 31)))), (0, .ref q0), (1, .int (nI c)), (3, .int (nI k))]) hx hb dX3_possibleSlips_24 rfl hl (by decide) rfl (fun ls hl => ?_)
          refine lv_iinc (v := nI (k + 1)) (lv' := [(3, .int (nI (k + 1))), (2, .int (((slF fc fw ft (fk c) (nI c) h k)) ||| ((nI 1) <<< ((nI k) &&& 31)))), (0, .ref q0), (1, .int (nI c))]) hx hb dX3_possibleSlips_25 hl (k := 3) rfl w_inc1 (by decide) rfl (fun ls hl => ?_)
          refine lv_goto (tgt := 4) hx hb dX3_possibleSlips_28 (by decide) ?_
          have he_5 : (((slF fc fw ft (fk c) (nI c) h k)) ||| ((nI 1) <<< ((nI k) &&& 31)) : Int32) = (slF fc fw ft (fk c) (nI c) h (k + 1)) := by first | with_reducible rfl | exact (if_pos (c_3)).symm | exact (if_neg (c_3)).symm | (simp [hh8, hc, hk, c_2, c_3]; done) | omega | rfl
          have hl := lv_cong hl (show ([(3, .int (nI (k + 1))), (2, .int (((slF fc fw ft (fk c) (nI c) h k)) ||| ((nI 1) <<< ((nI k) &&& 31)))), (0, .ref q0), (1, .int (nI c))] : List (Nat × Value)) = [(3, .int (nI ((k + 1)))), (2, .int ((slF fc fw ft (fk c) (nI c) h (k + 1)))), (0, .ref q0), (1, .int (nI c))] by rw [← he_5])
          exact ih4 (k + 1) (by omega) (by first | omega | with_reducible assumption | (first | with_reducible rfl | exact (if_pos (c_3)).symm | exact (if_neg (c_3)).symm | (simp [hh8, hc, hk, c_2, c_3]; done) | omega | rfl)) ls (lv_sub hl [2, 3, 1, 0] rfl)
  have he_6 : (nI 0 : Int32) = (slF fc fw ft (fk c) (nI c) h 0) := by first | with_reducible rfl | exact (if_pos (hc)).symm | exact (if_neg (hc)).symm | (simp [hh8, hc]; done) | omega | rfl
  have hl := lv_cong hl (show ([(3, .int (nI 0)), (2, .int (nI 0)), (0, .ref q0), (1, .int (nI c))] : List (Nat × Value)) = [(3, .int (nI 0)), (2, .int ((slF fc fw ft (fk c) (nI c) h 0))), (0, .ref q0), (1, .int (nI c))] by rw [← he_6])
  exact lp4 (10 - 0 + 1) (0) (Nat.lt_succ_self _) (by first | omega | with_reducible assumption | (first | with_reducible rfl | exact (if_pos (hc)).symm | exact (if_neg (hc)).symm | (simp [hh8, hc]; done) | omega | rfl)) ls (lv_sub hl [2, 3, 1, 0] rfl)
set_option maxHeartbeats 4000000 in
set_option maxRecDepth 100000 in
theorem k_X3_leftBy (l : Launch) (dC : Nat → ClassId) (dI : Nat → Nat → Nat) (cI cZ : ClassId) (k : Int32) (b : Int32) (r : Int32) (x : Int32) : Met l yX3_leftBy wsX3_leftBy ({ frames := 1, cells := 0, slots := 0, locals := 22 }) (va_Pc [.int (k), .int (b), .int (r), .int (x)] (PR (dC, dI) cI cZ [])) (QRi (nI (lbF b k r x 10))) 0 0 noF := by
  refine Met.ofW (cc := cX3_leftBy) (maxL := 6) (ret := (some .int)) (by decide) rfl ?_
  intro p e s m args below meth co s₁ B hml hv
  obtain ⟨rfl, hP, hK⟩ := hv
  have hx := B.exec
  have hb := B.bytes
  have hr := B.returns
  have hts := atoms_spec (ws := wsX3_leftBy) B.pre
  have hown : s.vm.findClass RX3 = some m.cls := findClass_of_methodNamed B.named
  have hlocks := B.notSynchronized
  have hl := lv_entry ([.int (k), .int (b), .int (r), .int (x)]) (n := 6) (Nat.le_of_ble_eq_true rfl)
  rw [lg_entry_eq]
  generalize (lg_sl ([.int (k), .int (b), .int (r), .int (x)]) ++ List.replicate (6 - (lg_sl ([.int (k), .int (b), .int (r), .int (x)])).length) Slot.unset).toArray = ls at hl ⊢
  have hl : lv_has ls 6 [(0, .int (k)), (1, .int (b)), (2, .int (r)), (3, .int (x))] := hl
  refine lv_iconst (v := nI 0) hx hb dX3_leftBy_0 (by decide) ?_
  refine lv_istore (lv' := [(4, .int (nI 0)), (0, .int (k)), (1, .int (b)), (2, .int (r)), (3, .int (x))]) hx hb dX3_leftBy_1 hl (by decide) rfl (fun ls hl => ?_)
  refine lv_iconst (v := nI 0) hx hb dX3_leftBy_3 (by decide) ?_
  refine lv_istore (lv' := [(5, .int (nI 0)), (4, .int (nI 0)), (0, .int (k)), (1, .int (b)), (2, .int (r)), (3, .int (x))]) hx hb dX3_leftBy_4 hl (by decide) rfl (fun ls hl => ?_)
  have lp6 : ∀ (fuel : Nat) (v : Nat), 10 - v < fuel → (v ≤ 10) → ∀ (ls : Array Slot), lv_has ls 6 [(0, .int (k)), (1, .int (b)), (2, .int (r)), (3, .int (x)), (4, .int (nI (lbF b k r x v))), (5, .int (nI v))] → W p l e (headSpec wsX3_leftBy ({ frames := 1, cells := 0, slots := 0, locals := 22 })).room s m ([.int (k), .int (b), .int (r), .int (x)] : List Value).toArray below meth co s.heap [] 0 0 (MQ below (QRi (nI (lbF b k r x 10))) ([.int (k), .int (b), .int (r), .int (x)] : List Value).toArray s 0 0 noF) (F0 m 6 ls []) := by
    intro fuel
    induction fuel with
    | zero => intro v h0; exact absurd h0 (Nat.not_lt_zero _)
    | succ fuel ih6 =>
      intro v hm_1 hv ls hl
      refine lv_iload hx hb dX3_leftBy_6 (lv_at hl 5 rfl) ?_
      refine lv_bipush (v := nI 10) hx hb dX3_leftBy_8 (by decide) ?_
      refine w_ci_ge (tgt := 43) hx hb (by omega) (by omega) dX3_leftBy_10 (by decide) (fun c_2 => ?_) (fun c_2 => ?_)
      · skip
        refine lv_iload hx hb dX3_leftBy_43 (lv_at hl 4 rfl) ?_
        exact retRi hx hb hr hlocks (by rw [show v = 10 by omega]) dX3_leftBy_45
      · skip
        refine lv_iload_n hx hb dX3_leftBy_13 rfl (lv_at hl 1 rfl) ?_
        refine lv_iload hx hb dX3_leftBy_14 (lv_at hl 5 rfl) ?_
        refine lv_ishr hx hb dX3_leftBy_16 ?_
        refine lv_iconst (v := nI 1) hx hb dX3_leftBy_17 (by decide) ?_
        refine lv_iand hx hb dX3_leftBy_18 ?_
        refine lv_iconst (v := nI 1) hx hb dX3_leftBy_19 (by decide) ?_
        refine lv_icmp_ne (tgt := 37) hx hb dX3_leftBy_20 (by decide) (fun c_3 => ?_) (fun c_3 => ?_)
        · skip
          refine lv_iinc (v := nI (v + 1)) (lv' := [(5, .int (nI (v + 1))), (0, .int (k)), (1, .int (b)), (2, .int (r)), (3, .int (x)), (4, .int (nI (lbF b k r x v)))]) hx hb dX3_leftBy_37 hl (k := 5) rfl w_inc1 (by decide) rfl (fun ls hl => ?_)
          refine lv_goto (tgt := 6) hx hb dX3_leftBy_40 (by decide) ?_
          have he_4 : (nI (lbF b k r x v) : Int32) = nI (lbF b k r x (v + 1)) := by simp [lbF, c_2, c_3]
          have hl := lv_cong hl (show ([(5, .int (nI (v + 1))), (0, .int (k)), (1, .int (b)), (2, .int (r)), (3, .int (x)), (4, .int (nI (lbF b k r x v)))] : List (Nat × Value)) = [(5, .int (nI ((v + 1)))), (0, .int (k)), (1, .int (b)), (2, .int (r)), (3, .int (x)), (4, .int (nI (lbF b k r x (v + 1))))] by rw [← he_4])
          exact ih6 (v + 1) (by omega) (by first | omega | with_reducible assumption | (first | with_reducible rfl | exact (if_pos (c_3)).symm | exact (if_neg (c_3)).symm | (simp [lbF, hv, c_2, c_3]; done) | omega | rfl)) ls (lv_sub hl [1, 2, 3, 4, 5, 0] rfl)
        · skip
          refine lv_iload_n hx hb dX3_leftBy_23 rfl (lv_at hl 0 rfl) ?_
          refine lv_iload hx hb dX3_leftBy_24 (lv_at hl 5 rfl) ?_
          refine lv_iload_n hx hb dX3_leftBy_26 rfl (lv_at hl 2 rfl) ?_
          have hPc := hP.sub (ws' := []) [] rfl
          refine callRi (v := (tb k (nI v) r)) (W.runS (As := [.int (k), .int (nI v), .int (r)]) (rest := []) ⟨hx, hb, hml, hown, hts⟩ (k_X1_passesOn l dC dI cI cZ (k) (nI v) (r)) (va_cwS 3 hts gX3_leftBy_X1_passesOn rfl rfl rfl (by decide +kernel) ⟨Nat.le_of_ble_eq_true rfl, Nat.le_of_ble_eq_true rfl⟩) (preRS hK hPc) rfl rfl hl.1 rfl (lv_room (Nat.le_of_ble_eq_true rfl)) dX3_leftBy_27 ⟨Nat.zero_le _, Nat.zero_le _⟩) ?_
          refine lv_iload_n hx hb dX3_leftBy_30 rfl (lv_at hl 3 rfl) ?_
          refine lv_icmp_ne (tgt := 37) hx hb dX3_leftBy_31 (by decide) (fun c_5 => ?_) (fun c_5 => ?_)
          · skip
            refine lv_iinc (v := nI (v + 1)) (lv' := [(5, .int (nI (v + 1))), (0, .int (k)), (1, .int (b)), (2, .int (r)), (3, .int (x)), (4, .int (nI (lbF b k r x v)))]) hx hb dX3_leftBy_37 hl (k := 5) rfl w_inc1 (by decide) rfl (fun ls hl => ?_)
            refine lv_goto (tgt := 6) hx hb dX3_leftBy_40 (by decide) ?_
            have he_6 : (nI (lbF b k r x v) : Int32) = nI (lbF b k r x (v + 1)) := by simp [lbF, c_3, c_5]
            have hl := lv_cong hl (show ([(5, .int (nI (v + 1))), (0, .int (k)), (1, .int (b)), (2, .int (r)), (3, .int (x)), (4, .int (nI (lbF b k r x v)))] : List (Nat × Value)) = [(5, .int (nI ((v + 1)))), (0, .int (k)), (1, .int (b)), (2, .int (r)), (3, .int (x)), (4, .int (nI (lbF b k r x (v + 1))))] by rw [← he_6])
            exact ih6 (v + 1) (by omega) (by first | omega | with_reducible assumption | (first | with_reducible rfl | exact (if_pos (c_5)).symm | exact (if_neg (c_5)).symm | (simp [lbF, hv, c_2, c_3, c_5]; done) | omega | rfl)) ls (lv_sub hl [1, 2, 3, 4, 5, 0] rfl)
          · skip
            refine lv_iinc (v := nI (lbF b k r x v + 1)) (lv' := [(4, .int (nI (lbF b k r x v + 1))), (0, .int (k)), (1, .int (b)), (2, .int (r)), (3, .int (x)), (5, .int (nI v))]) hx hb dX3_leftBy_34 hl (k := 4) rfl w_inc1 (by decide) rfl (fun ls hl => ?_)
            refine lv_iinc (v := nI (v + 1)) (lv' := [(5, .int (nI (v + 1))), (4, .int (nI (lbF b k r x v + 1))), (0, .int (k)), (1, .int (b)), (2, .int (r)), (3, .int (x))]) hx hb dX3_leftBy_37 hl (k := 5) rfl w_inc1 (by decide) rfl (fun ls hl => ?_)
            refine lv_goto (tgt := 6) hx hb dX3_leftBy_40 (by decide) ?_
            have he_7 : (nI (lbF b k r x v + 1) : Int32) = nI (lbF b k r x (v + 1)) := by simp [lbF, c_3, c_5]
            have hl := lv_cong hl (show ([(5, .int (nI (v + 1))), (4, .int (nI (lbF b k r x v + 1))), (0, .int (k)), (1, .int (b)), (2, .int (r)), (3, .int (x))] : List (Nat × Value)) = [(5, .int (nI ((v + 1)))), (4, .int (nI (lbF b k r x (v + 1)))), (0, .int (k)), (1, .int (b)), (2, .int (r)), (3, .int (x))] by rw [← he_7])
            exact ih6 (v + 1) (by omega) (by first | omega | with_reducible assumption | (first | with_reducible rfl | exact (if_pos (c_5)).symm | exact (if_neg (c_5)).symm | (simp [lbF, hv, c_2, c_3, c_5]; done) | omega | rfl)) ls (lv_sub hl [2, 3, 4, 5, 1, 0] rfl)
  have he_8 : (nI 0 : Int32) = nI (lbF b k r x 0) := by first | with_reducible rfl | exact (if_pos (trivial)).symm | exact (if_neg (trivial)).symm | (simp [lbF]; done) | omega | rfl
  have hl := lv_cong hl (show ([(5, .int (nI 0)), (4, .int (nI 0)), (0, .int (k)), (1, .int (b)), (2, .int (r)), (3, .int (x))] : List (Nat × Value)) = [(5, .int (nI 0)), (4, .int (nI (lbF b k r x 0))), (0, .int (k)), (1, .int (b)), (2, .int (r)), (3, .int (x))] by rw [← he_8])
  exact lp6 (10 - 0 + 1) (0) (Nat.lt_succ_self _) (by first | omega | with_reducible assumption | (first | with_reducible rfl | exact (if_pos (trivial)).symm | exact (if_neg (trivial)).symm | (simp [lbF]; done) | omega | rfl)) ls (lv_sub hl [2, 3, 4, 5, 1, 0] rfl)
set_option maxHeartbeats 4000000 in
set_option maxRecDepth 100000 in
theorem k_X3_worstLeft (l : Launch) (dC : Nat → ClassId) (dI : Nat → Nat → Nat) (cI cZ : ClassId) (k : Int32) (b : Int32) (r : Int32) : Met l yX3_worstLeft wsX3_worstLeft ({ frames := 2, cells := 0, slots := 0, locals := 47 }) (va_Pc [.int (k), .int (b), .int (r)] (PR (dC, dI) cI cZ [])) (QRi (nI (wlF b k r 10 12))) 0 0 noF := by
  refine Met.ofW (cc := cX3_worstLeft) (maxL := 5) (ret := (some .int)) (by decide) rfl ?_
  intro p e s m args below meth co s₁ B hml hv
  obtain ⟨rfl, hP, hK⟩ := hv
  have hx := B.exec
  have hb := B.bytes
  have hr := B.returns
  have hts := atoms_spec (ws := wsX3_worstLeft) B.pre
  have hown : s.vm.findClass RX3 = some m.cls := findClass_of_methodNamed B.named
  have hlocks := B.notSynchronized
  have lcdmax := hts (.code Lib.Math.max.name Lib.Math.max.code 2 (some .int)) (by decide +kernel)
  have lim := hts (.initialized "java/lang/Math") (by decide +kernel)
  have lk114 := hts (.methodLink RX3 114 Lib.Math.max.name) (by decide +kernel)
  have lsmax := hts (.static Lib.Math.max.name) (by decide +kernel)
  have hl := lv_entry ([.int (k), .int (b), .int (r)]) (n := 5) (Nat.le_of_ble_eq_true rfl)
  rw [lg_entry_eq]
  generalize (lg_sl ([.int (k), .int (b), .int (r)]) ++ List.replicate (5 - (lg_sl ([.int (k), .int (b), .int (r)])).length) Slot.unset).toArray = ls at hl ⊢
  have hl : lv_has ls 5 [(0, .int (k)), (1, .int (b)), (2, .int (r))] := hl
  refine lv_iconst (v := nI 0) hx hb dX3_worstLeft_0 (by decide) ?_
  refine lv_istore_n (lv' := [(3, .int (nI 0)), (0, .int (k)), (1, .int (b)), (2, .int (r))]) hx hb dX3_worstLeft_1 rfl hl (by decide) rfl (fun ls hl => ?_)
  refine lv_iconst (v := nI 0) hx hb dX3_worstLeft_2 (by decide) ?_
  refine lv_istore (lv' := [(4, .int (nI 0)), (3, .int (nI 0)), (0, .int (k)), (1, .int (b)), (2, .int (r))]) hx hb dX3_worstLeft_3 hl (by decide) rfl (fun ls hl => ?_)
  have lp5 : ∀ (fuel : Nat) (a : Nat), 12 - a < fuel → (a ≤ 12) → ∀ (ls : Array Slot), lv_has ls 5 [(0, .int (k)), (1, .int (b)), (2, .int (r)), (3, .int (nI (wlF b k r 10 a))), (4, .int (nI a))] → W p l e (headSpec wsX3_worstLeft ({ frames := 2, cells := 0, slots := 0, locals := 47 })).room s m ([.int (k), .int (b), .int (r)] : List Value).toArray below meth co s.heap [] 0 0 (MQ below (QRi (nI (wlF b k r 10 12))) ([.int (k), .int (b), .int (r)] : List Value).toArray s 0 0 noF) (F0 m 5 ls []) := by
    intro fuel
    induction fuel with
    | zero => intro a h0; exact absurd h0 (Nat.not_lt_zero _)
    | succ fuel ih5 =>
      intro a hm_1 ha ls hl
      refine lv_iload hx hb dX3_worstLeft_5 (lv_at hl 4 rfl) ?_
      refine lv_bipush (v := nI 12) hx hb dX3_worstLeft_7 (by decide) ?_
      refine w_ci_ge (tgt := 31) hx hb (by omega) (by omega) dX3_worstLeft_9 (by decide) (fun c_2 => ?_) (fun c_2 => ?_)
      · skip
        refine lv_iload_n hx hb dX3_worstLeft_31 rfl (lv_at hl 3 rfl) ?_
        exact retRi hx hb hr hlocks (by rw [show a = 12 by omega]) dX3_worstLeft_32
      · skip
        refine lv_iload_n hx hb dX3_worstLeft_12 rfl (lv_at hl 3 rfl) ?_
        refine lv_iload_n hx hb dX3_worstLeft_13 rfl (lv_at hl 0 rfl) ?_
        refine lv_iload_n hx hb dX3_worstLeft_14 rfl (lv_at hl 1 rfl) ?_
        refine lv_iload_n hx hb dX3_worstLeft_15 rfl (lv_at hl 2 rfl) ?_
        refine lv_iload hx hb dX3_worstLeft_16 (lv_at hl 4 rfl) ?_
        have hPc := hP.sub (ws' := []) [] rfl
        refine callRi (v := nI (lbF b k r (nI a) 10)) (W.runS (As := [.int (k), .int (b), .int (r), .int (nI a)]) (rest := [.int (nI (wlF b k r 10 a))]) ⟨hx, hb, hml, hown, hts⟩ (k_X3_leftBy l dC dI cI cZ (k) (b) (r) (nI a)) (va_cwS 4 hts gX3_worstLeft_X3_leftBy rfl rfl rfl (by decide +kernel) ⟨Nat.le_of_ble_eq_true rfl, Nat.le_of_ble_eq_true rfl⟩) (preRS hK hPc) rfl rfl hl.1 rfl (lv_room (Nat.le_of_ble_eq_true rfl)) dX3_worstLeft_18 ⟨Nat.zero_le _, Nat.zero_le _⟩) ?_
        refine va_mmax hx hb (by rw [hml]; exact hl.1.symm) hown lk114 lsmax lim lcdmax (Nat.le_of_ble_eq_true rfl) (Nat.le_of_ble_eq_true rfl) (Nat.zero_le _) (Nat.zero_le _) dX3_worstLeft_21 ?_
        rw [show ((if (nI (wlF b k r 10 a) : Int32) < nI (lbF b k r (nI a) 10) then nI (lbF b k r (nI a) 10) else nI (wlF b k r 10 a)) : Int32) = nI (Nat.max (wlF b k r 10 a) (lbF b k r (nI a) 10)) from w_max (Nat.lt_of_le_of_lt wlF_le (by decide)) (Nat.lt_of_le_of_lt lbF_le (by decide))]
        refine lv_istore_n (lv' := [(3, .int (nI (Nat.max (wlF b k r 10 a) (lbF b k r (nI a) 10)))), (0, .int (k)), (1, .int (b)), (2, .int (r)), (4, .int (nI a))]) hx hb dX3_worstLeft_24 rfl hl (by decide) rfl (fun ls hl => ?_)
        refine lv_iinc (v := nI (a + 1)) (lv' := [(4, .int (nI (a + 1))), (3, .int (nI (Nat.max (wlF b k r 10 a) (lbF b k r (nI a) 10)))), (0, .int (k)), (1, .int (b)), (2, .int (r))]) hx hb dX3_worstLeft_25 hl (k := 4) rfl w_inc1 (by decide) rfl (fun ls hl => ?_)
        refine lv_goto (tgt := 5) hx hb dX3_worstLeft_28 (by decide) ?_
        have he_3 : (nI (Nat.max (wlF b k r 10 a) (lbF b k r (nI a) 10)) : Int32) = nI (wlF b k r 10 (a + 1)) := by first | with_reducible rfl | exact (if_pos (c_2)).symm | exact (if_neg (c_2)).symm | (simp [ha, c_2]; done) | omega | rfl
        have hl := lv_cong hl (show ([(4, .int (nI (a + 1))), (3, .int (nI (Nat.max (wlF b k r 10 a) (lbF b k r (nI a) 10)))), (0, .int (k)), (1, .int (b)), (2, .int (r))] : List (Nat × Value)) = [(4, .int (nI ((a + 1)))), (3, .int (nI (wlF b k r 10 (a + 1)))), (0, .int (k)), (1, .int (b)), (2, .int (r))] by rw [← he_3])
        exact ih5 (a + 1) (by omega) (by first | omega | with_reducible assumption | (first | with_reducible rfl | exact (if_pos (c_2)).symm | exact (if_neg (c_2)).symm | (simp [ha, c_2]; done) | omega | rfl)) ls (lv_sub hl [2, 3, 4, 1, 0] rfl)
  have he_4 : (nI 0 : Int32) = nI (wlF b k r 10 0) := by first | with_reducible rfl | exact (if_pos (trivial)).symm | exact (if_neg (trivial)).symm | (simp []; done) | omega | rfl
  have hl := lv_cong hl (show ([(4, .int (nI 0)), (3, .int (nI 0)), (0, .int (k)), (1, .int (b)), (2, .int (r))] : List (Nat × Value)) = [(4, .int (nI 0)), (3, .int (nI (wlF b k r 10 0))), (0, .int (k)), (1, .int (b)), (2, .int (r))] by rw [← he_4])
  exact lp5 (12 - 0 + 1) (0) (Nat.lt_succ_self _) (by first | omega | with_reducible assumption | (first | with_reducible rfl | exact (if_pos (trivial)).symm | exact (if_neg (trivial)).symm | (simp []; done) | omega | rfl)) ls (lv_sub hl [2, 3, 4, 1, 0] rfl)
