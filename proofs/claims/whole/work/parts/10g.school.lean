set_option maxHeartbeats 4000000 in
set_option maxRecDepth 100000 in
theorem k_X3_bestQuestion (l : Launch) (dC : Nat → ClassId) (dI : Nat → Nat → Nat) (cI cZ : ClassId) (q0 q1 q2 q3 q4 q5 q6 q7 : Nat) (fk fs fn fi fc fw ft : Nat → Int32) (n h : Nat) (th tt : Int32) (c : Nat) (hh8 : h ≤ 8) (hc : c < 6) : Met l yX3_bestQuestion wsX3_bestQuestion ({ frames := 3, cells := 0, slots := 0, locals := 71 }) (va_Pc [.ref q0, .int (nI c)] (PR (dC, dI) cI cZ [(q0, .inr (2, [.ref q1, .ref q2, .ref q3, .ref q4, .ref q5, .ref q6, .ref q7, .int (nI n), .int (nI h), .int (th), .int (tt)])), (q1, .inl (cI, 6, .inl (fk))), (q2, .inl (cI, 6, .inl (fs))), (q3, .inl (cI, 6, .inl (fn))), (q4, .inl (cZ, 6, .inl (fi))), (q5, .inl (cI, 8, .inl (fc))), (q6, .inl (cI, 8, .inl (fw))), (q7, .inl (cI, 8, .inl (ft)))])) (QRi ((bqA (slF fc fw ft (fk c) (nI c) h 10) (bqF (fun r => wlF (slF fc fw ft (fk c) (nI c) h 10) (fk c) (nI r) 10 12) 12).1))) 0 0 noF := by
  refine Met.ofW (cc := cX3_bestQuestion) (maxL := 7) (ret := (some .int)) (by decide) rfl ?_
  intro p e s m args below meth co s₁ B hml hv
  obtain ⟨rfl, hP, hK⟩ := hv
  have hx := B.exec
  have hb := B.bytes
  have hr := B.returns
  have hts := atoms_spec (ws := wsX3_bestQuestion) B.pre
  have hown : s.vm.findClass RX3 = some m.cls := findClass_of_methodNamed B.named
  have hlocks := B.notSynchronized
  have inX3 : ∀ w ∈ u_ws RX3 TX3 11, w ∈ wsX3_bestQuestion := by decide +kernel
  have lf11 := hts (.fieldLink RX3 11 "ThursdayRungs$School" "kinds" "[I") (by decide +kernel)
  have hl := lv_entry ([.ref q0, .int (nI c)]) (n := 7) (Nat.le_of_ble_eq_true rfl)
  rw [lg_entry_eq]
  generalize (lg_sl ([.ref q0, .int (nI c)]) ++ List.replicate (7 - (lg_sl ([.ref q0, .int (nI c)])).length) Slot.unset).toArray = ls at hl ⊢
  have hl : lv_has ls 7 [(0, .ref q0), (1, .int (nI c))] := hl
  refine lv_aload_n hx hb dX3_bestQuestion_0 rfl (lv_at hl 0 rfl) ?_
  refine lv_iload_n hx hb dX3_bestQuestion_1 rfl (lv_at hl 1 rfl) ?_
  have hPc := hP.sub (ws' := [(q0, .inr (2, [.ref q1, .ref q2, .ref q3, .ref q4, .ref q5, .ref q6, .ref q7, .int (nI n), .int (nI h), .int (th), .int (tt)])), (q1, .inl (cI, 6, .inl (fk))), (q2, .inl (cI, 6, .inl (fs))), (q3, .inl (cI, 6, .inl (fn))), (q4, .inl (cZ, 6, .inl (fi))), (q5, .inl (cI, 8, .inl (fc))), (q6, .inl (cI, 8, .inl (fw))), (q7, .inl (cI, 8, .inl (ft)))]) [0, 1, 2, 3, 4, 5, 6, 7] rfl
  refine callRi (v := (slF fc fw ft (fk c) (nI c) h 10)) (W.runV (As := [.int (nI c)]) (rest := []) ⟨hx, hb, hml, hown, hts⟩ (k_X3_possibleSlips l dC dI cI cZ q0 q1 q2 q3 q4 q5 q6 q7 (fk) (fs) (fn) (fi) (fc) (fw) (ft) (n) (h) (th) (tt) (c) (by first | omega | with_reducible assumption | (simp; omega)) (by first | omega | with_reducible assumption | (simp; omega))) (cwV 1 hts gX3_bestQuestion_X3_possibleSlips rfl rfl rfl (by decide +kernel) ⟨Nat.le_of_ble_eq_true rfl, Nat.le_of_ble_eq_true rfl⟩) (preRV (q := (RX3, TX3, 11)) (ci := 2) hK hPc rfl rfl) rfl rfl hl.1 rfl (lv_room (Nat.le_of_ble_eq_true rfl)) dX3_bestQuestion_2 ⟨Nat.zero_le _, Nat.zero_le _⟩) ?_
  refine lv_istore_n (lv' := [(2, .int ((slF fc fw ft (fk c) (nI c) h 10))), (0, .ref q0), (1, .int (nI c))]) hx hb dX3_bestQuestion_5 rfl hl (by decide) rfl (fun ls hl => ?_)
  refine lv_iconst (v := -1) hx hb dX3_bestQuestion_6 (by decide) ?_
  refine lv_istore_n (lv' := [(3, .int ((-1))), (2, .int ((slF fc fw ft (fk c) (nI c) h 10))), (0, .ref q0), (1, .int (nI c))]) hx hb dX3_bestQuestion_7 rfl hl (by decide) rfl (fun ls hl => ?_)
  refine lv_bipush (v := nI 11) hx hb dX3_bestQuestion_8 (by decide) ?_
  refine lv_istore (lv' := [(4, .int (nI 11)), (3, .int ((-1))), (2, .int ((slF fc fw ft (fk c) (nI c) h 10))), (0, .ref q0), (1, .int (nI c))]) hx hb dX3_bestQuestion_10 hl (by decide) rfl (fun ls hl => ?_)
  refine lv_iconst (v := nI 0) hx hb dX3_bestQuestion_12 (by decide) ?_
  refine lv_istore (lv' := [(5, .int (nI 0)), (4, .int (nI 11)), (3, .int ((-1))), (2, .int ((slF fc fw ft (fk c) (nI c) h 10))), (0, .ref q0), (1, .int (nI c))]) hx hb dX3_bestQuestion_13 hl (by decide) rfl (fun ls hl => ?_)
  have lp15 : ∀ (fuel : Nat) (k : Nat), 12 - k < fuel → (k ≤ 12) → (k = 0 ∨ ¬ (slF fc fw ft (fk c) (nI c) h 10) = 0) → ∀ (ls : Array Slot), lv_has ls 7 [(0, .ref q0), (1, .int (nI c)), (2, .int ((slF fc fw ft (fk c) (nI c) h 10))), (3, .int ((bqF (fun r => wlF (slF fc fw ft (fk c) (nI c) h 10) (fk c) (nI r) 10 12) k).1)), (4, .int (nI ((bqF (fun r => wlF (slF fc fw ft (fk c) (nI c) h 10) (fk c) (nI r) 10 12) k).2))), (5, .int (nI k))] → W p l e (headSpec wsX3_bestQuestion ({ frames := 3, cells := 0, slots := 0, locals := 71 })).room s m ([.ref q0, .int (nI c)] : List Value).toArray below meth co s.heap [] 0 0 (MQ below (QRi ((bqA (slF fc fw ft (fk c) (nI c) h 10) (bqF (fun r => wlF (slF fc fw ft (fk c) (nI c) h 10) (fk c) (nI r) 10 12) 12).1))) ([.ref q0, .int (nI c)] : List Value).toArray s 0 0 noF) (F0 m 15 ls []) := by
    intro fuel
    induction fuel with
    | zero => intro k h0; exact absurd h0 (Nat.not_lt_zero _)
    | succ fuel ih15 =>
      intro k hm_1 hk hbz ls hl
      refine lv_iload hx hb dX3_bestQuestion_15 (lv_at hl 5 rfl) ?_
      refine lv_bipush (v := nI 12) hx hb dX3_bestQuestion_17 (by decide) ?_
      refine w_ci_ge (tgt := 60) hx hb (by omega) (by omega) dX3_bestQuestion_19 (by decide) (fun c_2 => ?_) (fun c_2 => ?_)
      · skip
        refine lv_iload_n hx hb dX3_bestQuestion_60 rfl (lv_at hl 3 rfl) ?_
        exact retRi hx hb hr hlocks (by first | exact bqA0 c_2 hbz | exact bqA1 (by omega) hbz) dX3_bestQuestion_61
      · skip
        refine lv_iload_n hx hb dX3_bestQuestion_22 rfl (lv_at hl 2 rfl) ?_
        refine lv_if_eq (tgt := 60) hx hb dX3_bestQuestion_23 (by decide) (fun c_3 => ?_) (fun c_3 => ?_)
        · skip
          refine lv_iload_n hx hb dX3_bestQuestion_60 rfl (lv_at hl 3 rfl) ?_
          exact retRi hx hb hr hlocks (by first | exact bqA0 c_3 hbz | exact bqA1 (by omega) hbz) dX3_bestQuestion_61
        · skip
          refine lv_aload_n hx hb dX3_bestQuestion_26 rfl (lv_at hl 0 rfl) ?_
          refine va_get (D := (dC, dI)) (ci := 2) (v := .ref q1) (C := RX3) (T := TX3) (N := 11) hx hb hts inX3 hown hK hP 0 rfl rfl 0 (by decide) lf11 (fun _ h9 => h9) rfl dX3_bestQuestion_27 ?_
          refine lv_iload_n hx hb dX3_bestQuestion_30 rfl (lv_at hl 1 rfl) ?_
          refine w_iald (k := c) hx hb hK hP 1 0 rfl rfl (by omega) (by decide) dX3_bestQuestion_31 ?_
          refine lv_iload_n hx hb dX3_bestQuestion_32 rfl (lv_at hl 2 rfl) ?_
          refine lv_iload hx hb dX3_bestQuestion_33 (lv_at hl 5 rfl) ?_
          have hPc := hP.sub (ws' := []) [] rfl
          refine callRi (v := nI (wlF (slF fc fw ft (fk c) (nI c) h 10) (fk c) (nI k) 10 12)) (W.runS (As := [.int (fk c), .int ((slF fc fw ft (fk c) (nI c) h 10)), .int (nI k)]) (rest := []) ⟨hx, hb, hml, hown, hts⟩ (k_X3_worstLeft l dC dI cI cZ (fk c) ((slF fc fw ft (fk c) (nI c) h 10)) (nI k)) (va_cwS 3 hts gX3_bestQuestion_X3_worstLeft rfl rfl rfl (by decide +kernel) ⟨Nat.le_of_ble_eq_true rfl, Nat.le_of_ble_eq_true rfl⟩) (preRS hK hPc) rfl rfl hl.1 rfl (lv_room (Nat.le_of_ble_eq_true rfl)) dX3_bestQuestion_35 ⟨Nat.zero_le _, Nat.zero_le _⟩) ?_
          refine lv_istore (lv' := [(6, .int (nI (wlF (slF fc fw ft (fk c) (nI c) h 10) (fk c) (nI k) 10 12))), (0, .ref q0), (1, .int (nI c)), (2, .int ((slF fc fw ft (fk c) (nI c) h 10))), (3, .int ((bqF (fun r => wlF (slF fc fw ft (fk c) (nI c) h 10) (fk c) (nI r) 10 12) k).1)), (4, .int (nI ((bqF (fun r => wlF (slF fc fw ft (fk c) (nI c) h 10) (fk c) (nI r) 10 12) k).2))), (5, .int (nI k))]) hx hb dX3_bestQuestion_38 hl (by decide) rfl (fun ls hl => ?_)
          refine lv_iload hx hb dX3_bestQuestion_40 (lv_at hl 0 rfl) ?_
          refine lv_iload hx hb dX3_bestQuestion_42 (lv_at hl 5 rfl) ?_
          have hu := wlF_le (b := slF fc fw ft (fk c) (nI c) h 10) (k := fk c) (r := nI k) (v := 10) (a := 12)
          have hv := bqF_le (g := fun r => wlF (slF fc fw ft (fk c) (nI c) h 10) (fk c) (nI r) 10 12) (k := k)
          refine w_ci_ge (tgt := 54) hx hb (by omega) (by omega) dX3_bestQuestion_44 (by decide) (fun c_4 => ?_) (fun c_4 => ?_)
          · skip
            refine lv_iinc (v := nI (k + 1)) (lv' := [(5, .int (nI (k + 1))), (6, .int (nI (wlF (slF fc fw ft (fk c) (nI c) h 10) (fk c) (nI k) 10 12))), (0, .ref q0), (1, .int (nI c)), (2, .int ((slF fc fw ft (fk c) (nI c) h 10))), (3, .int ((bqF (fun r => wlF (slF fc fw ft (fk c) (nI c) h 10) (fk c) (nI r) 10 12) k).1)), (4, .int (nI ((bqF (fun r => wlF (slF fc fw ft (fk c) (nI c) h 10) (fk c) (nI r) 10 12) k).2)))]) hx hb dX3_bestQuestion_54 hl (k := 6) rfl w_inc1 (by decide) rfl (fun ls hl => ?_)
            refine lv_goto (tgt := 15) hx hb dX3_bestQuestion_57 (by decide) ?_
            have he_5 : ((bqF (fun r => wlF (slF fc fw ft (fk c) (nI c) h 10) (fk c) (nI r) 10 12) k).1 : Int32) = (bqF (fun r => wlF (slF fc fw ft (fk c) (nI c) h 10) (fk c) (nI r) 10 12) (k + 1)).1 := by first | (simp [bqF, c_4]; done) | (simp [bqF, Nat.not_lt.mpr c_4]; done)
            have he_6 : (nI ((bqF (fun r => wlF (slF fc fw ft (fk c) (nI c) h 10) (fk c) (nI r) 10 12) k).2) : Int32) = nI ((bqF (fun r => wlF (slF fc fw ft (fk c) (nI c) h 10) (fk c) (nI r) 10 12) (k + 1)).2) := by first | (simp [bqF, c_4]; done) | (simp [bqF, Nat.not_lt.mpr c_4]; done)
            have hl := lv_cong hl (show ([(5, .int (nI (k + 1))), (6, .int (nI (wlF (slF fc fw ft (fk c) (nI c) h 10) (fk c) (nI k) 10 12))), (0, .ref q0), (1, .int (nI c)), (2, .int ((slF fc fw ft (fk c) (nI c) h 10))), (3, .int ((bqF (fun r => wlF (slF fc fw ft (fk c) (nI c) h 10) (fk c) (nI r) 10 12) k).1)), (4, .int (nI ((bqF (fun r => wlF (slF fc fw ft (fk c) (nI c) h 10) (fk c) (nI r) 10 12) k).2)))] : List (Nat × Value)) = [(5, .int (nI ((k + 1)))), (6, .int (nI (wlF (slF fc fw ft (fk c) (nI c) h 10) (fk c) (nI k) 10 12))), (0, .ref q0), (1, .int (nI c)), (2, .int ((slF fc fw ft (fk c) (nI c) h 10))), (3, .int ((bqF (fun r => wlF (slF fc fw ft (fk c) (nI c) h 10) (fk c) (nI r) 10 12) (k + 1)).1)), (4, .int (nI ((bqF (fun r => wlF (slF fc fw ft (fk c) (nI c) h 10) (fk c) (nI r) 10 12) (k + 1)).2)))] by rw [← he_5, ← he_6])
            exact ih15 (k + 1) (by omega) (by first | omega | with_reducible assumption | (first | with_reducible rfl | exact (if_pos (c_4)).symm | exact (if_neg (c_4)).symm | (simp [hh8, hc, hk, hbz, c_2, c_3, c_4]; done) | omega | rfl)) (by exact Or.inr c_3) ls (lv_sub hl [2, 3, 4, 5, 6, 0] rfl)
          · skip
            refine lv_iload hx hb dX3_bestQuestion_47 (lv_at hl 0 rfl) ?_
            refine lv_istore (lv' := [(4, .int (nI (wlF (slF fc fw ft (fk c) (nI c) h 10) (fk c) (nI k) 10 12))), (6, .int (nI (wlF (slF fc fw ft (fk c) (nI c) h 10) (fk c) (nI k) 10 12))), (0, .ref q0), (1, .int (nI c)), (2, .int ((slF fc fw ft (fk c) (nI c) h 10))), (3, .int ((bqF (fun r => wlF (slF fc fw ft (fk c) (nI c) h 10) (fk c) (nI r) 10 12) k).1)), (5, .int (nI k))]) hx hb dX3_bestQuestion_49 hl (by decide) rfl (fun ls hl => ?_)
            refine lv_iload hx hb dX3_bestQuestion_51 (lv_at hl 6 rfl) ?_
            refine lv_istore_n (lv' := [(3, .int (nI k)), (4, .int (nI (wlF (slF fc fw ft (fk c) (nI c) h 10) (fk c) (nI k) 10 12))), (6, .int (nI (wlF (slF fc fw ft (fk c) (nI c) h 10) (fk c) (nI k) 10 12))), (0, .ref q0), (1, .int (nI c)), (2, .int ((slF fc fw ft (fk c) (nI c) h 10))), (5, .int (nI k))]) hx hb dX3_bestQuestion_53 rfl hl (by decide) rfl (fun ls hl => ?_)
            refine lv_iinc (v := nI (k + 1)) (lv' := [(5, .int (nI (k + 1))), (3, .int (nI k)), (4, .int (nI (wlF (slF fc fw ft (fk c) (nI c) h 10) (fk c) (nI k) 10 12))), (6, .int (nI (wlF (slF fc fw ft (fk c) (nI c) h 10) (fk c) (nI k) 10 12))), (0, .ref q0), (1, .int (nI c)), (2, .int ((slF fc fw ft (fk c) (nI c) h 10)))]) hx hb dX3_bestQuestion_54 hl (k := 6) rfl w_inc1 (by decide) rfl (fun ls hl => ?_)
            refine lv_goto (tgt := 15) hx hb dX3_bestQuestion_57 (by decide) ?_
            have he_7 : (nI k : Int32) = (bqF (fun r => wlF (slF fc fw ft (fk c) (nI c) h 10) (fk c) (nI r) 10 12) (k + 1)).1 := by first | (simp [bqF, c_4]; done) | (simp [bqF, Nat.not_lt.mpr c_4]; done)
            have he_8 : (nI (wlF (slF fc fw ft (fk c) (nI c) h 10) (fk c) (nI k) 10 12) : Int32) = nI ((bqF (fun r => wlF (slF fc fw ft (fk c) (nI c) h 10) (fk c) (nI r) 10 12) (k + 1)).2) := by first | (simp [bqF, c_4]; done) | (simp [bqF, Nat.not_lt.mpr c_4]; done)
            have hl := lv_cong hl (show ([(5, .int (nI (k + 1))), (3, .int (nI k)), (4, .int (nI (wlF (slF fc fw ft (fk c) (nI c) h 10) (fk c) (nI k) 10 12))), (6, .int (nI (wlF (slF fc fw ft (fk c) (nI c) h 10) (fk c) (nI k) 10 12))), (0, .ref q0), (1, .int (nI c)), (2, .int ((slF fc fw ft (fk c) (nI c) h 10)))] : List (Nat × Value)) = [(5, .int (nI ((k + 1)))), (3, .int ((bqF (fun r => wlF (slF fc fw ft (fk c) (nI c) h 10) (fk c) (nI r) 10 12) (k + 1)).1)), (4, .int (nI ((bqF (fun r => wlF (slF fc fw ft (fk c) (nI c) h 10) (fk c) (nI r) 10 12) (k + 1)).2))), (6, .int (nI (wlF (slF fc fw ft (fk c) (nI c) h 10) (fk c) (nI k) 10 12))), (0, .ref q0), (1, .int (nI c)), (2, .int ((slF fc fw ft (fk c) (nI c) h 10)))] by rw [← he_7, ← he_8])
            exact ih15 (k + 1) (by omega) (by first | omega | with_reducible assumption | (first | with_reducible rfl | exact (if_pos (c_4)).symm | exact (if_neg (c_4)).symm | (simp [hh8, hc, hk, hbz, c_2, c_3, c_4]; done) | omega | rfl)) (by exact Or.inr c_3) ls (lv_sub hl [4, 5, 6, 1, 2, 0] rfl)
  have he_9 : ((-1) : Int32) = (bqF (fun r => wlF (slF fc fw ft (fk c) (nI c) h 10) (fk c) (nI r) 10 12) 0).1 := by rfl
  have he_10 : (nI 11 : Int32) = nI ((bqF (fun r => wlF (slF fc fw ft (fk c) (nI c) h 10) (fk c) (nI r) 10 12) 0).2) := by rfl
  have hl := lv_cong hl (show ([(5, .int (nI 0)), (4, .int (nI 11)), (3, .int ((-1))), (2, .int ((slF fc fw ft (fk c) (nI c) h 10))), (0, .ref q0), (1, .int (nI c))] : List (Nat × Value)) = [(5, .int (nI 0)), (4, .int (nI ((bqF (fun r => wlF (slF fc fw ft (fk c) (nI c) h 10) (fk c) (nI r) 10 12) 0).2))), (3, .int ((bqF (fun r => wlF (slF fc fw ft (fk c) (nI c) h 10) (fk c) (nI r) 10 12) 0).1)), (2, .int ((slF fc fw ft (fk c) (nI c) h 10))), (0, .ref q0), (1, .int (nI c))] by rw [← he_9, ← he_10])
  exact lp15 (12 - 0 + 1) (0) (Nat.lt_succ_self _) (by first | omega | with_reducible assumption | (first | with_reducible rfl | exact (if_pos (hc)).symm | exact (if_neg (hc)).symm | (simp [hh8, hc]; done) | omega | rfl)) (by exact Or.inl rfl) ls (lv_sub hl [4, 5, 3, 2, 1, 0] rfl)
