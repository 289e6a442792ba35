set_option maxHeartbeats 4000000 in
set_option maxRecDepth 100000 in
theorem k_X4_with (l : Launch) (dC : Nat → ClassId) (dI : Nat → Nat → Nat) (cI cZ : ClassId) (a : Int64) (b : Int64) : Met l yX4_with wsX4_with ({ frames := 0, cells := 0, slots := 0, locals := 0 }) (va_Pc [.long (a), .long (b)] (PR (dC, dI) cI cZ [])) (QRl ((hF a b))) 0 0 noF := by
  refine Met.ofW (cc := cX4_with) (maxL := 4) (ret := (some .long)) (by decide) rfl ?_
  intro p e s m args below meth co s₁ B hml hv
  obtain ⟨rfl, hP, hK⟩ := hv
  have hx := B.exec
  have hb := B.bytes
  have hr := B.returns
  have hts := atoms_spec (ws := wsX4_with) B.pre
  have hown : s.vm.findClass RX4 = some m.cls := findClass_of_methodNamed B.named
  have hlocks := B.notSynchronized
  have lc203 := hts (.constantLong RX4 203 (31)) (by decide +kernel)
  have hl := lv_entry ([.long (a), .long (b)]) (n := 4) (Nat.le_of_ble_eq_true rfl)
  rw [lg_entry_eq]
  generalize (lg_sl ([.long (a), .long (b)]) ++ List.replicate (4 - (lg_sl ([.long (a), .long (b)])).length) Slot.unset).toArray = ls at hl ⊢
  have hl : lv_has ls 4 [(0, .long (a)), (2, .long (b))] := hl
  refine lv_ldc2 (v := 31) hx hb hown lc203 dX4_with_0 ?_
  refine lv_lload_n hx hb dX4_with_3 rfl (lv_at hl 0 rfl) ?_
  refine lv_lmul hx hb dX4_with_4 ?_
  refine lv_lload_n hx hb dX4_with_5 rfl (lv_at hl 1 rfl) ?_
  refine lv_ladd hx hb dX4_with_6 ?_
  exact retRl hx hb hr hlocks (by rfl) dX4_with_7
set_option maxHeartbeats 4000000 in
set_option maxRecDepth 100000 in
theorem k_X4_withChild (l : Launch) (dC : Nat → ClassId) (dI : Nat → Nat → Nat) (cI cZ : ClassId) (t0 g0 q0 kq0 tq0 w0 q1 q2 q3 q4 q5 q6 q7 : Nat) (fk fs fn fi fc fw ft : Nat → Int32) (n h : Nat) (sr th tt : Int32) (a : Int64) (c : Nat) (hn6 : n ≤ 6) (hh8 : h ≤ 8) (hc : c < n) : Met l yX4_withChild wsX4_withChild ({ frames := 5, cells := 0, slots := 0, locals := 119 }) (va_Pc [.ref t0, .long (a), .int (nI c)] (PR (dC, dI) cI cZ [(t0, .inr (3, [.ref g0, .ref q0, .ref kq0, .ref tq0, .ref w0, .int (sr)])), (q0, .inr (2, [.ref q1, .ref q2, .ref q3, .ref q4, .ref q5, .ref q6, .ref q7, .int (nI n), .int (nI h), .int (th), .int (tt)])), (q1, .inl (cI, 6, .inl (fk))), (q2, .inl (cI, 6, .inl (fs))), (q3, .inl (cI, 6, .inl (fn))), (q4, .inl (cZ, 6, .inl (fi))), (q5, .inl (cI, 8, .inl (fc))), (q6, .inl (cI, 8, .inl (fw))), (q7, .inl (cI, 8, .inl (ft)))])) (QRl ((wcF n h fk fs fn fi fc fw ft c a))) 0 0 noF := by
  refine Met.ofW (cc := cX4_withChild) (maxL := 7) (ret := (some .long)) (by decide) rfl ?_
  intro p e s m args below meth co s₁ B hml hv
  obtain ⟨rfl, hP, hK⟩ := hv
  have hx := B.exec
  have hb := B.bytes
  have hr := B.returns
  have hts := atoms_spec (ws := wsX4_withChild) B.pre
  have hown : s.vm.findClass RX4 = some m.cls := findClass_of_methodNamed B.named
  have hlocks := B.notSynchronized
  have hl := lv_entry ([.ref t0, .long (a), .int (nI c)]) (n := 7) (Nat.le_of_ble_eq_true rfl)
  rw [lg_entry_eq]
  generalize (lg_sl ([.ref t0, .long (a), .int (nI c)]) ++ List.replicate (7 - (lg_sl ([.ref t0, .long (a), .int (nI c)])).length) Slot.unset).toArray = ls at hl ⊢
  have hl : lv_has ls 7 [(0, .ref t0), (1, .long (a)), (3, .int (nI c))] := hl
  refine lv_lload_n hx hb dX4_withChild_0 rfl (lv_at hl 1 rfl) ?_
  refine lv_lstore (lv' := [(4, .long (a)), (0, .ref t0), (1, .long (a)), (3, .int (nI c))]) hx hb dX4_withChild_1 hl (by decide) rfl (fun ls hl => ?_)
  refine lv_iconst (v := nI 0) hx hb dX4_withChild_3 (by decide) ?_
  refine lv_istore (lv' := [(6, .int (nI 0)), (4, .long (a)), (0, .ref t0), (1, .long (a)), (3, .int (nI c))]) hx hb dX4_withChild_4 hl (by decide) rfl (fun ls hl => ?_)
  have lp6 : ∀ (fuel : Nat) (k : Nat), 7 - k < fuel → k ≤ 7 → ∀ (ls : Array Slot), lv_has ls 7 [(0, .ref t0), (1, .long (a)), (3, .int (nI c)), (4, .long ((fdF (fun w => chF n h fk fs fn fi fc fw ft (nI c) (nI w)) a k))), (6, .int (nI k))] → W p l e (headSpec wsX4_withChild ({ frames := 5, cells := 0, slots := 0, locals := 119 })).room s m ([.ref t0, .long (a), .int (nI c)] : List Value).toArray below meth co s.heap [] 0 0 (MQ below (QRl ((wcF n h fk fs fn fi fc fw ft c a))) ([.ref t0, .long (a), .int (nI c)] : List Value).toArray s 0 0 noF) (F0 m 6 ls []) := by
    intro fuel
    induction fuel with
    | zero => intro k h0; exact absurd h0 (Nat.not_lt_zero _)
    | succ fuel ih6 =>
      intro k hm_1 hk ls hl
      refine lv_iload hx hb dX4_withChild_6 (lv_at hl 4 rfl) ?_
      refine lv_bipush (v := nI 6) hx hb dX4_withChild_8 (by decide) ?_
      refine w_ci_gt (tgt := 34) hx hb (by omega) (by omega) dX4_withChild_10 (by decide) (fun c_2 => ?_) (fun c_2 => ?_)
      · skip
        refine lv_lload hx hb dX4_withChild_34 (lv_at hl 3 rfl) ?_
        refine lv_aload_n hx hb dX4_withChild_36 rfl (lv_at hl 0 rfl) ?_
        refine lv_iload_n hx hb dX4_withChild_37 rfl (lv_at hl 2 rfl) ?_
        refine lv_iconst (v := nI 0) hx hb dX4_withChild_38 (by decide) ?_
        have hPc := hP.sub (ws' := [(t0, .inr (3, [.ref g0, .ref q0, .ref kq0, .ref tq0, .ref w0, .int (sr)])), (q0, .inr (2, [.ref q1, .ref q2, .ref q3, .ref q4, .ref q5, .ref q6, .ref q7, .int (nI n), .int (nI h), .int (th), .int (tt)])), (q1, .inl (cI, 6, .inl (fk))), (q2, .inl (cI, 6, .inl (fs))), (q3, .inl (cI, 6, .inl (fn))), (q4, .inl (cZ, 6, .inl (fi))), (q5, .inl (cI, 8, .inl (fc))), (q6, .inl (cI, 8, .inl (fw))), (q7, .inl (cI, 8, .inl (ft)))]) [0, 1, 2, 3, 4, 5, 6, 7, 8] rfl
        refine callRi (v := (gd n (nI c) (nI 0) (atF fk fs (ix (nI c)) (n - 1 - ix (nI c)) (nI 0)))) (W.runV (As := [.int (nI c), .int (nI 0)]) (rest := [.long ((fdF (fun w => chF n h fk fs fn fi fc fw ft (nI c) (nI w)) a k))]) ⟨hx, hb, hml, hown, hts⟩ (k_X4_arrives l dC dI cI cZ t0 g0 q0 kq0 tq0 w0 q1 q2 q3 q4 q5 q6 q7 (fk) (fs) (fn) (fi) (fc) (fw) (ft) (n) (h) (sr) (th) (tt) (nI c) (nI 0) (by first | omega | with_reducible assumption | (simp; omega))) (cwV 2 hts gX4_withChild_X4_arrives rfl rfl rfl (by decide +kernel) ⟨Nat.le_of_ble_eq_true rfl, Nat.le_of_ble_eq_true rfl⟩) (preRV (q := (RX4, TX4, 6)) (ci := 3) hK hPc rfl rfl) rfl rfl hl.1 rfl (lv_room (Nat.le_of_ble_eq_true rfl)) dX4_withChild_39 ⟨Nat.zero_le _, Nat.zero_le _⟩) ?_
        rw [show ((gd n (nI c) (nI 0) (atF fk fs (ix (nI c)) (n - 1 - ix (nI c)) (nI 0))) : Int32) = (atF fk fs c (n - 1 - c) (nI 0)) from by rw [gd_yes hc (by omega) (by decide), ix_nI (show c < 2147483648 by omega)]]
        refine lv_i2l (v := Int32.toInt64 ((atF fk fs c (n - 1 - c) (nI 0)))) hx hb dX4_withChild_42 rfl ?_
        have hPc := hP.sub (ws' := []) [] rfl
        refine callRl (v := (hF (fdF (fun w => chF n h fk fs fn fi fc fw ft (nI c) (nI w)) a k) (Int32.toInt64 ((atF fk fs c (n - 1 - c) (nI 0)))))) (W.runS (As := [.long ((fdF (fun w => chF n h fk fs fn fi fc fw ft (nI c) (nI w)) a k)), .long ((Int32.toInt64 ((atF fk fs c (n - 1 - c) (nI 0)))))]) (rest := []) ⟨hx, hb, hml, hown, hts⟩ (k_X4_with l dC dI cI cZ ((fdF (fun w => chF n h fk fs fn fi fc fw ft (nI c) (nI w)) a k)) ((Int32.toInt64 ((atF fk fs c (n - 1 - c) (nI 0)))))) (va_cwS 2 hts gX4_withChild_X4_with rfl rfl rfl (by decide +kernel) ⟨Nat.le_of_ble_eq_true rfl, Nat.le_of_ble_eq_true rfl⟩) (preRS hK hPc) rfl rfl hl.1 rfl (lv_room (Nat.le_of_ble_eq_true rfl)) dX4_withChild_43 ⟨Nat.zero_le _, Nat.zero_le _⟩) ?_
        refine lv_lstore (lv' := [(4, .long ((hF (fdF (fun w => chF n h fk fs fn fi fc fw ft (nI c) (nI w)) a k) (Int32.toInt64 ((atF fk fs c (n - 1 - c) (nI 0))))))), (0, .ref t0), (1, .long (a)), (3, .int (nI c)), (6, .int (nI k))]) hx hb dX4_withChild_46 hl (by decide) rfl (fun ls hl => ?_)
        refine lv_lload hx hb dX4_withChild_48 (lv_at hl 0 rfl) ?_
        refine lv_aload_n hx hb dX4_withChild_50 rfl (lv_at hl 1 rfl) ?_
        refine lv_iload_n hx hb dX4_withChild_51 rfl (lv_at hl 3 rfl) ?_
        refine lv_iconst (v := nI 1) hx hb dX4_withChild_52 (by decide) ?_
        have hPc := hP.sub (ws' := [(t0, .inr (3, [.ref g0, .ref q0, .ref kq0, .ref tq0, .ref w0, .int (sr)])), (q0, .inr (2, [.ref q1, .ref q2, .ref q3, .ref q4, .ref q5, .ref q6, .ref q7, .int (nI n), .int (nI h), .int (th), .int (tt)])), (q1, .inl (cI, 6, .inl (fk))), (q2, .inl (cI, 6, .inl (fs))), (q3, .inl (cI, 6, .inl (fn))), (q4, .inl (cZ, 6, .inl (fi))), (q5, .inl (cI, 8, .inl (fc))), (q6, .inl (cI, 8, .inl (fw))), (q7, .inl (cI, 8, .inl (ft)))]) [0, 1, 2, 3, 4, 5, 6, 7, 8] rfl
        refine callRi (v := (gd n (nI c) (nI 1) (atF fk fs (ix (nI c)) (n - 1 - ix (nI c)) (nI 1)))) (W.runV (As := [.int (nI c), .int (nI 1)]) (rest := [.long ((hF (fdF (fun w => chF n h fk fs fn fi fc fw ft (nI c) (nI w)) a k) (Int32.toInt64 ((atF fk fs c (n - 1 - c) (nI 0))))))]) ⟨hx, hb, hml, hown, hts⟩ (k_X4_arrives l dC dI cI cZ t0 g0 q0 kq0 tq0 w0 q1 q2 q3 q4 q5 q6 q7 (fk) (fs) (fn) (fi) (fc) (fw) (ft) (n) (h) (sr) (th) (tt) (nI c) (nI 1) (by first | omega | with_reducible assumption | (simp; omega))) (cwV 2 hts gX4_withChild_X4_arrives rfl rfl rfl (by decide +kernel) ⟨Nat.le_of_ble_eq_true rfl, Nat.le_of_ble_eq_true rfl⟩) (preRV (q := (RX4, TX4, 6)) (ci := 3) hK hPc rfl rfl) rfl rfl hl.1 rfl (lv_room (Nat.le_of_ble_eq_true rfl)) dX4_withChild_53 ⟨Nat.zero_le _, Nat.zero_le _⟩) ?_
        rw [show ((gd n (nI c) (nI 1) (atF fk fs (ix (nI c)) (n - 1 - ix (nI c)) (nI 1))) : Int32) = (atF fk fs c (n - 1 - c) (nI 1)) from by rw [gd_yes hc (by omega) (by decide), ix_nI (show c < 2147483648 by omega)]]
        refine lv_i2l (v := Int32.toInt64 ((atF fk fs c (n - 1 - c) (nI 1)))) hx hb dX4_withChild_56 rfl ?_
        have hPc := hP.sub (ws' := []) [] rfl
        refine callRl (v := (hF (hF (fdF (fun w => chF n h fk fs fn fi fc fw ft (nI c) (nI w)) a k) (Int32.toInt64 ((atF fk fs c (n - 1 - c) (nI 0))))) (Int32.toInt64 ((atF fk fs c (n - 1 - c) (nI 1)))))) (W.runS (As := [.long ((hF (fdF (fun w => chF n h fk fs fn fi fc fw ft (nI c) (nI w)) a k) (Int32.toInt64 ((atF fk fs c (n - 1 - c) (nI 0)))))), .long ((Int32.toInt64 ((atF fk fs c (n - 1 - c) (nI 1)))))]) (rest := []) ⟨hx, hb, hml, hown, hts⟩ (k_X4_with l dC dI cI cZ ((hF (fdF (fun w => chF n h fk fs fn fi fc fw ft (nI c) (nI w)) a k) (Int32.toInt64 ((atF fk fs c (n - 1 - c) (nI 0)))))) ((Int32.toInt64 ((atF fk fs c (n - 1 - c) (nI 1)))))) (va_cwS 2 hts gX4_withChild_X4_with rfl rfl rfl (by decide +kernel) ⟨Nat.le_of_ble_eq_true rfl, Nat.le_of_ble_eq_true rfl⟩) (preRS hK hPc) rfl rfl hl.1 rfl (lv_room (Nat.le_of_ble_eq_true rfl)) dX4_withChild_57 ⟨Nat.zero_le _, Nat.zero_le _⟩) ?_
        refine lv_lstore (lv' := [(4, .long ((hF (hF (fdF (fun w => chF n h fk fs fn fi fc fw ft (nI c) (nI w)) a k) (Int32.toInt64 ((atF fk fs c (n - 1 - c) (nI 0))))) (Int32.toInt64 ((atF fk fs c (n - 1 - c) (nI 1))))))), (0, .ref t0), (1, .long (a)), (3, .int (nI c)), (6, .int (nI k))]) hx hb dX4_withChild_60 hl (by decide) rfl (fun ls hl => ?_)
        refine lv_lload hx hb dX4_withChild_62 (lv_at hl 0 rfl) ?_
        refine lv_aload_n hx hb dX4_withChild_64 rfl (lv_at hl 1 rfl) ?_
        refine lv_iload_n hx hb dX4_withChild_65 rfl (lv_at hl 3 rfl) ?_
        refine lv_iconst (v := nI 5) hx hb dX4_withChild_66 (by decide) ?_
        have hPc := hP.sub (ws' := [(t0, .inr (3, [.ref g0, .ref q0, .ref kq0, .ref tq0, .ref w0, .int (sr)])), (q0, .inr (2, [.ref q1, .ref q2, .ref q3, .ref q4, .ref q5, .ref q6, .ref q7, .int (nI n), .int (nI h), .int (th), .int (tt)])), (q1, .inl (cI, 6, .inl (fk))), (q2, .inl (cI, 6, .inl (fs))), (q3, .inl (cI, 6, .inl (fn))), (q4, .inl (cZ, 6, .inl (fi))), (q5, .inl (cI, 8, .inl (fc))), (q6, .inl (cI, 8, .inl (fw))), (q7, .inl (cI, 8, .inl (ft)))]) [0, 1, 2, 3, 4, 5, 6, 7, 8] rfl
        refine callRi (v := (gd n (nI c) (nI 5) (atF fk fs (ix (nI c)) (n - 1 - ix (nI c)) (nI 5)))) (W.runV (As := [.int (nI c), .int (nI 5)]) (rest := [.long ((hF (hF (fdF (fun w => chF n h fk fs fn fi fc fw ft (nI c) (nI w)) a k) (Int32.toInt64 ((atF fk fs c (n - 1 - c) (nI 0))))) (Int32.toInt64 ((atF fk fs c (n - 1 - c) (nI 1))))))]) ⟨hx, hb, hml, hown, hts⟩ (k_X4_arrives l dC dI cI cZ t0 g0 q0 kq0 tq0 w0 q1 q2 q3 q4 q5 q6 q7 (fk) (fs) (fn) (fi) (fc) (fw) (ft) (n) (h) (sr) (th) (tt) (nI c) (nI 5) (by first | omega | with_reducible assumption | (simp; omega))) (cwV 2 hts gX4_withChild_X4_arrives rfl rfl rfl (by decide +kernel) ⟨Nat.le_of_ble_eq_true rfl, Nat.le_of_ble_eq_true rfl⟩) (preRV (q := (RX4, TX4, 6)) (ci := 3) hK hPc rfl rfl) rfl rfl hl.1 rfl (lv_room (Nat.le_of_ble_eq_true rfl)) dX4_withChild_67 ⟨Nat.zero_le _, Nat.zero_le _⟩) ?_
        rw [show ((gd n (nI c) (nI 5) (atF fk fs (ix (nI c)) (n - 1 - ix (nI c)) (nI 5))) : Int32) = (atF fk fs c (n - 1 - c) (nI 5)) from by rw [gd_yes hc (by omega) (by decide), ix_nI (show c < 2147483648 by omega)]]
        refine lv_i2l (v := Int32.toInt64 ((atF fk fs c (n - 1 - c) (nI 5)))) hx hb dX4_withChild_70 rfl ?_
        have hPc := hP.sub (ws' := []) [] rfl
        refine callRl (v := (hF (hF (hF (fdF (fun w => chF n h fk fs fn fi fc fw ft (nI c) (nI w)) a k) (Int32.toInt64 ((atF fk fs c (n - 1 - c) (nI 0))))) (Int32.toInt64 ((atF fk fs c (n - 1 - c) (nI 1))))) (Int32.toInt64 ((atF fk fs c (n - 1 - c) (nI 5)))))) (W.runS (As := [.long ((hF (hF (fdF (fun w => chF n h fk fs fn fi fc fw ft (nI c) (nI w)) a k) (Int32.toInt64 ((atF fk fs c (n - 1 - c) (nI 0))))) (Int32.toInt64 ((atF fk fs c (n - 1 - c) (nI 1)))))), .long ((Int32.toInt64 ((atF fk fs c (n - 1 - c) (nI 5)))))]) (rest := []) ⟨hx, hb, hml, hown, hts⟩ (k_X4_with l dC dI cI cZ ((hF (hF (fdF (fun w => chF n h fk fs fn fi fc fw ft (nI c) (nI w)) a k) (Int32.toInt64 ((atF fk fs c (n - 1 - c) (nI 0))))) (Int32.toInt64 ((atF fk fs c (n - 1 - c) (nI 1)))))) ((Int32.toInt64 ((atF fk fs c (n - 1 - c) (nI 5)))))) (va_cwS 2 hts gX4_withChild_X4_with rfl rfl rfl (by decide +kernel) ⟨Nat.le_of_ble_eq_true rfl, Nat.le_of_ble_eq_true rfl⟩) (preRS hK hPc) rfl rfl hl.1 rfl (lv_room (Nat.le_of_ble_eq_true rfl)) dX4_withChild_71 ⟨Nat.zero_le _, Nat.zero_le _⟩) ?_
        refine lv_lstore (lv' := [(4, .long ((hF (hF (hF (fdF (fun w => chF n h fk fs fn fi fc fw ft (nI c) (nI w)) a k) (Int32.toInt64 ((atF fk fs c (n - 1 - c) (nI 0))))) (Int32.toInt64 ((atF fk fs c (n - 1 - c) (nI 1))))) (Int32.toInt64 ((atF fk fs c (n - 1 - c) (nI 5))))))), (0, .ref t0), (1, .long (a)), (3, .int (nI c)), (6, .int (nI k))]) hx hb dX4_withChild_74 hl (by decide) rfl (fun ls hl => ?_)
        refine lv_lload hx hb dX4_withChild_76 (lv_at hl 0 rfl) ?_
        refine lv_aload_n hx hb dX4_withChild_78 rfl (lv_at hl 1 rfl) ?_
        refine lv_iload_n hx hb dX4_withChild_79 rfl (lv_at hl 3 rfl) ?_
        refine lv_iconst (v := nI 3) hx hb dX4_withChild_80 (by decide) ?_
        have hPc := hP.sub (ws' := [(t0, .inr (3, [.ref g0, .ref q0, .ref kq0, .ref tq0, .ref w0, .int (sr)])), (q0, .inr (2, [.ref q1, .ref q2, .ref q3, .ref q4, .ref q5, .ref q6, .ref q7, .int (nI n), .int (nI h), .int (th), .int (tt)])), (q1, .inl (cI, 6, .inl (fk))), (q2, .inl (cI, 6, .inl (fs))), (q3, .inl (cI, 6, .inl (fn))), (q4, .inl (cZ, 6, .inl (fi))), (q5, .inl (cI, 8, .inl (fc))), (q6, .inl (cI, 8, .inl (fw))), (q7, .inl (cI, 8, .inl (ft)))]) [0, 1, 2, 3, 4, 5, 6, 7, 8] rfl
        refine callRi (v := (gd n (nI c) (nI 3) (srcF (fun q => atF fk fs (ix (nI c)) (n - 1 - ix (nI c)) (nI q)) (nI 3) 12))) (W.runV (As := [.int (nI c), .int (nI 3)]) (rest := [.long ((hF (hF (hF (fdF (fun w => chF n h fk fs fn fi fc fw ft (nI c) (nI w)) a k) (Int32.toInt64 ((atF fk fs c (n - 1 - c) (nI 0))))) (Int32.toInt64 ((atF fk fs c (n - 1 - c) (nI 1))))) (Int32.toInt64 ((atF fk fs c (n - 1 - c) (nI 5))))))]) ⟨hx, hb, hml, hown, hts⟩ (k_X4_from l dC dI cI cZ t0 g0 q0 kq0 tq0 w0 q1 q2 q3 q4 q5 q6 q7 (fk) (fs) (fn) (fi) (fc) (fw) (ft) (n) (h) (sr) (th) (tt) (nI c) (nI 3) (by first | omega | with_reducible assumption | (simp; omega))) (cwV 2 hts gX4_withChild_X4_from rfl rfl rfl (by decide +kernel) ⟨Nat.le_of_ble_eq_true rfl, Nat.le_of_ble_eq_true rfl⟩) (preRV (q := (RX4, TX4, 6)) (ci := 3) hK hPc rfl rfl) rfl rfl hl.1 rfl (lv_room (Nat.le_of_ble_eq_true rfl)) dX4_withChild_81 ⟨Nat.zero_le _, Nat.zero_le _⟩) ?_
        rw [show ((gd n (nI c) (nI 3) (srcF (fun q => atF fk fs (ix (nI c)) (n - 1 - ix (nI c)) (nI q)) (nI 3) 12)) : Int32) = (srcF (fun q => atF fk fs c (n - 1 - c) (nI q)) (nI 3) 12) from by rw [gd_yes hc (by omega) (by decide), ix_nI (show c < 2147483648 by omega)]]
        refine lv_i2l (v := Int32.toInt64 ((srcF (fun q => atF fk fs c (n - 1 - c) (nI q)) (nI 3) 12))) hx hb dX4_withChild_84 rfl ?_
        have hPc := hP.sub (ws' := []) [] rfl
        refine callRl (v := (hF (hF (hF (hF (fdF (fun w => chF n h fk fs fn fi fc fw ft (nI c) (nI w)) a k) (Int32.toInt64 ((atF fk fs c (n - 1 - c) (nI 0))))) (Int32.toInt64 ((atF fk fs c (n - 1 - c) (nI 1))))) (Int32.toInt64 ((atF fk fs c (n - 1 - c) (nI 5))))) (Int32.toInt64 ((srcF (fun q => atF fk fs c (n - 1 - c) (nI q)) (nI 3) 12))))) (W.runS (As := [.long ((hF (hF (hF (fdF (fun w => chF n h fk fs fn fi fc fw ft (nI c) (nI w)) a k) (Int32.toInt64 ((atF fk fs c (n - 1 - c) (nI 0))))) (Int32.toInt64 ((atF fk fs c (n - 1 - c) (nI 1))))) (Int32.toInt64 ((atF fk fs c (n - 1 - c) (nI 5)))))), .long ((Int32.toInt64 ((srcF (fun q => atF fk fs c (n - 1 - c) (nI q)) (nI 3) 12))))]) (rest := []) ⟨hx, hb, hml, hown, hts⟩ (k_X4_with l dC dI cI cZ ((hF (hF (hF (fdF (fun w => chF n h fk fs fn fi fc fw ft (nI c) (nI w)) a k) (Int32.toInt64 ((atF fk fs c (n - 1 - c) (nI 0))))) (Int32.toInt64 ((atF fk fs c (n - 1 - c) (nI 1))))) (Int32.toInt64 ((atF fk fs c (n - 1 - c) (nI 5)))))) ((Int32.toInt64 ((srcF (fun q => atF fk fs c (n - 1 - c) (nI q)) (nI 3) 12))))) (va_cwS 2 hts gX4_withChild_X4_with rfl rfl rfl (by decide +kernel) ⟨Nat.le_of_ble_eq_true rfl, Nat.le_of_ble_eq_true rfl⟩) (preRS hK hPc) rfl rfl hl.1 rfl (lv_room (Nat.le_of_ble_eq_true rfl)) dX4_withChild_85 ⟨Nat.zero_le _, Nat.zero_le _⟩) ?_
        exact retRl hx hb hr hlocks (by rw [show k = 7 by omega]; rfl) dX4_withChild_88
      · skip
        refine lv_lload hx hb dX4_withChild_13 (lv_at hl 3 rfl) ?_
        refine lv_aload_n hx hb dX4_withChild_15 rfl (lv_at hl 0 rfl) ?_
        refine lv_iload_n hx hb dX4_withChild_16 rfl (lv_at hl 2 rfl) ?_
        refine lv_iload hx hb dX4_withChild_17 (lv_at hl 4 rfl) ?_
        have hPc := hP.sub (ws' := [(t0, .inr (3, [.ref g0, .ref q0, .ref kq0, .ref tq0, .ref w0, .int (sr)])), (q0, .inr (2, [.ref q1, .ref q2, .ref q3, .ref q4, .ref q5, .ref q6, .ref q7, .int (nI n), .int (nI h), .int (th), .int (tt)])), (q1, .inl (cI, 6, .inl (fk))), (q2, .inl (cI, 6, .inl (fs))), (q3, .inl (cI, 6, .inl (fn))), (q4, .inl (cZ, 6, .inl (fi))), (q5, .inl (cI, 8, .inl (fc))), (q6, .inl (cI, 8, .inl (fw))), (q7, .inl (cI, 8, .inl (ft)))]) [0, 1, 2, 3, 4, 5, 6, 7, 8] rfl
        refine callRi (v := (chF n h fk fs fn fi fc fw ft (nI c) (nI k))) (W.runV (As := [.int (nI c), .int (nI k)]) (rest := [.long ((fdF (fun w => chF n h fk fs fn fi fc fw ft (nI c) (nI w)) a k))]) ⟨hx, hb, hml, hown, hts⟩ (k_X4_child l dC dI cI cZ t0 g0 q0 kq0 tq0 w0 q1 q2 q3 q4 q5 q6 q7 (fk) (fs) (fn) (fi) (fc) (fw) (ft) (n) (h) (sr) (th) (tt) (nI c) (nI k) (by first | omega | with_reducible assumption | (simp; omega)) (by first | omega | with_reducible assumption | (simp; omega))) (cwV 2 hts gX4_withChild_X4_child rfl rfl rfl (by decide +kernel) ⟨Nat.le_of_ble_eq_true rfl, Nat.le_of_ble_eq_true rfl⟩) (preRV (q := (RX4, TX4, 6)) (ci := 3) hK hPc rfl rfl) rfl rfl hl.1 rfl (lv_room (Nat.le_of_ble_eq_true rfl)) dX4_withChild_19 ⟨Nat.zero_le _, Nat.zero_le _⟩) ?_
        refine lv_i2l (v := Int32.toInt64 ((chF n h fk fs fn fi fc fw ft (nI c) (nI k)))) hx hb dX4_withChild_22 rfl ?_
        have hPc := hP.sub (ws' := []) [] rfl
        refine callRl (v := (hF (fdF (fun w => chF n h fk fs fn fi fc fw ft (nI c) (nI w)) a k) (Int32.toInt64 ((chF n h fk fs fn fi fc fw ft (nI c) (nI k)))))) (W.runS (As := [.long ((fdF (fun w => chF n h fk fs fn fi fc fw ft (nI c) (nI w)) a k)), .long ((Int32.toInt64 ((chF n h fk fs fn fi fc fw ft (nI c) (nI k)))))]) (rest := []) ⟨hx, hb, hml, hown, hts⟩ (k_X4_with l dC dI cI cZ ((fdF (fun w => chF n h fk fs fn fi fc fw ft (nI c) (nI w)) a k)) ((Int32.toInt64 ((chF n h fk fs fn fi fc fw ft (nI c) (nI k)))))) (va_cwS 2 hts gX4_withChild_X4_with rfl rfl rfl (by decide +kernel) ⟨Nat.le_of_ble_eq_true rfl, Nat.le_of_ble_eq_true rfl⟩) (preRS hK hPc) rfl rfl hl.1 rfl (lv_room (Nat.le_of_ble_eq_true rfl)) dX4_withChild_23 ⟨Nat.zero_le _, Nat.zero_le _⟩) ?_
        refine lv_lstore (lv' := [(4, .long ((hF (fdF (fun w => chF n h fk fs fn fi fc fw ft (nI c) (nI w)) a k) (Int32.toInt64 ((chF n h fk fs fn fi fc fw ft (nI c) (nI k))))))), (0, .ref t0), (1, .long (a)), (3, .int (nI c)), (6, .int (nI k))]) hx hb dX4_withChild_26 hl (by decide) rfl (fun ls hl => ?_)
        refine lv_iinc (v := nI (k + 1)) (lv' := [(6, .int (nI (k + 1))), (4, .long ((hF (fdF (fun w => chF n h fk fs fn fi fc fw ft (nI c) (nI w)) a k) (Int32.toInt64 ((chF n h fk fs fn fi fc fw ft (nI c) (nI k))))))), (0, .ref t0), (1, .long (a)), (3, .int (nI c))]) hx hb dX4_withChild_28 hl (k := 4) rfl w_inc1 (by decide) rfl (fun ls hl => ?_)
        refine lv_goto (tgt := 6) hx hb dX4_withChild_31 (by decide) ?_
        have he_7 : ((hF (fdF (fun w => chF n h fk fs fn fi fc fw ft (nI c) (nI w)) a k) (Int32.toInt64 ((chF n h fk fs fn fi fc fw ft (nI c) (nI k))))) : Int64) = (fdF (fun w => chF n h fk fs fn fi fc fw ft (nI c) (nI w)) a (k + 1)) := by first | with_reducible rfl | exact (if_pos (c_2)).symm | exact (if_neg (c_2)).symm | (simp [hn6, hh8, hc, hk, c_2]; done) | omega | rfl
        have hl := lv_cong hl (show ([(6, .int (nI (k + 1))), (4, .long ((hF (fdF (fun w => chF n h fk fs fn fi fc fw ft (nI c) (nI w)) a k) (Int32.toInt64 ((chF n h fk fs fn fi fc fw ft (nI c) (nI k))))))), (0, .ref t0), (1, .long (a)), (3, .int (nI c))] : List (Nat × Value)) = [(6, .int (nI ((k + 1)))), (4, .long ((fdF (fun w => chF n h fk fs fn fi fc fw ft (nI c) (nI w)) a (k + 1)))), (0, .ref t0), (1, .long (a)), (3, .int (nI c))] by rw [← he_7])
        exact ih6 (k + 1) (by omega) (by first | omega | with_reducible assumption | (first | with_reducible rfl | exact (if_pos (c_2)).symm | exact (if_neg (c_2)).symm | (simp [hn6, hh8, hc, hk, c_2]; done) | omega | rfl)) ls (lv_sub hl [2, 3, 4, 1, 0] rfl)
  have he_8 : (a : Int64) = (fdF (fun w => chF n h fk fs fn fi fc fw ft (nI c) (nI w)) a 0) := by first | with_reducible rfl | exact (if_pos (hc)).symm | exact (if_neg (hc)).symm | (simp [hn6, hh8, hc]; done) | omega | rfl
  have hl := lv_cong hl (show ([(6, .int (nI 0)), (4, .long (a)), (0, .ref t0), (1, .long (a)), (3, .int (nI c))] : List (Nat × Value)) = [(6, .int (nI 0)), (4, .long ((fdF (fun w => chF n h fk fs fn fi fc fw ft (nI c) (nI w)) a 0))), (0, .ref t0), (1, .long (a)), (3, .int (nI c))] by rw [← he_8])
  exact lp6 (7 - 0 + 1) (0) (Nat.lt_succ_self _) (by first | omega | with_reducible assumption | (first | with_reducible rfl | exact (if_pos (hc)).symm | exact (if_neg (hc)).symm | (simp [hn6, hh8, hc]; done) | omega | rfl)) ls (lv_sub hl [2, 3, 4, 1, 0] rfl)
