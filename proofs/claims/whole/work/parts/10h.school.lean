set_option maxHeartbeats 4000000 in
set_option maxRecDepth 100000 in
theorem k_X3_knowing (l : Launch) (dC : Nat → ClassId) (dI : Nat → Nat → Nat) (cI cZ : ClassId) (q0 q1 q2 q3 q4 q5 q6 q7 : Nat) (fk fs fn fi fc fw ft : Nat → Int32) (n h : Nat) (th tt : Int32) (hn6 : n ≤ 6) : Met l yX3_knowing wsX3_knowing ({ frames := 0, cells := 0, slots := 0, locals := 0 }) (va_Pc [.ref q0] (PR (dC, dI) cI cZ [(q0, .inr (2, [.ref q1, .ref q2, .ref q3, .ref q4, .ref q5, .ref q6, .ref q7, .int (nI n), .int (nI h), .int (th), .int (tt)])), (q1, .inl (cI, 6, .inl (fk))), (q2, .inl (cI, 6, .inl (fs))), (q3, .inl (cI, 6, .inl (fn))), (q4, .inl (cZ, 6, .inl (fi))), (q5, .inl (cI, 8, .inl (fc))), (q6, .inl (cI, 8, .inl (fw))), (q7, .inl (cI, 8, .inl (ft)))])) (QRi (nI (kwF fn n))) 0 0 noF := by
  refine Met.ofW (cc := cX3_knowing) (maxL := 3) (ret := (some .int)) (by decide) rfl ?_
  intro p e s m args below meth co s₁ B hml hv
  obtain ⟨rfl, hP, hK⟩ := hv
  have hx := B.exec
  have hb := B.bytes
  have hr := B.returns
  have hts := atoms_spec (ws := wsX3_knowing) B.pre
  have hown : s.vm.findClass RX3 = some m.cls := findClass_of_methodNamed B.named
  have hlocks := B.notSynchronized
  have inX3 : ∀ w ∈ u_ws RX3 TX3 11, w ∈ wsX3_knowing := by decide +kernel
  have lf18 := hts (.fieldLink RX3 18 "ThursdayRungs$School" "known" "[I") (by decide +kernel)
  have lf34 := hts (.fieldLink RX3 34 "ThursdayRungs$School" "size" "I") (by decide +kernel)
  have hl := lv_entry ([.ref q0]) (n := 3) (Nat.le_of_ble_eq_true rfl)
  rw [lg_entry_eq]
  generalize (lg_sl ([.ref q0]) ++ List.replicate (3 - (lg_sl ([.ref q0])).length) Slot.unset).toArray = ls at hl ⊢
  have hl : lv_has ls 3 [(0, .ref q0)] := hl
  refine lv_iconst (v := nI 0) hx hb dX3_knowing_0 (by decide) ?_
  refine lv_istore_n (lv' := [(1, .int (nI 0)), (0, .ref q0)]) hx hb dX3_knowing_1 rfl hl (by decide) rfl (fun ls hl => ?_)
  refine lv_iconst (v := nI 0) hx hb dX3_knowing_2 (by decide) ?_
  refine lv_istore_n (lv' := [(2, .int (nI 0)), (1, .int (nI 0)), (0, .ref q0)]) hx hb dX3_knowing_3 rfl hl (by decide) rfl (fun ls hl => ?_)
  have lp4 : ∀ (fuel : Nat) (k : Nat), n - k < fuel → (k ≤ n) → ∀ (ls : Array Slot), lv_has ls 3 [(0, .ref q0), (1, .int (nI (kwF fn k))), (2, .int (nI k))] → W p l e (headSpec wsX3_knowing ({ frames := 0, cells := 0, slots := 0, locals := 0 })).room s m ([.ref q0] : List Value).toArray below meth co s.heap [] 0 0 (MQ below (QRi (nI (kwF fn n))) ([.ref q0] : List Value).toArray s 0 0 noF) (F0 m 4 ls []) := by
    intro fuel
    induction fuel with
    | zero => intro k h0; exact absurd h0 (Nat.not_lt_zero _)
    | succ fuel ih4 =>
      intro k hm_1 hk ls hl
      refine lv_iload_n hx hb dX3_knowing_4 rfl (lv_at hl 2 rfl) ?_
      refine lv_aload_n hx hb dX3_knowing_5 rfl (lv_at hl 0 rfl) ?_
      refine va_get (D := (dC, dI)) (ci := 2) (v := .int (nI n)) (C := RX3) (T := TX3) (N := 11) hx hb hts inX3 hown hK hP 0 rfl rfl 7 (by decide) lf34 (fun _ h9 => h9) rfl dX3_knowing_6 ?_
      refine w_ci_ge (tgt := 36) hx hb (by omega) (by omega) dX3_knowing_9 (by decide) (fun c_2 => ?_) (fun c_2 => ?_)
      · skip
        refine lv_iload_n hx hb dX3_knowing_36 rfl (lv_at hl 1 rfl) ?_
        exact retRi hx hb hr hlocks (by rw [show k = n by omega]) dX3_knowing_37
      · skip
        refine lv_iload_n hx hb dX3_knowing_12 rfl (lv_at hl 1 rfl) ?_
        refine lv_aload_n hx hb dX3_knowing_13 rfl (lv_at hl 0 rfl) ?_
        refine va_get (D := (dC, dI)) (ci := 2) (v := .ref q3) (C := RX3) (T := TX3) (N := 11) hx hb hts inX3 hown hK hP 0 rfl rfl 2 (by decide) lf18 (fun _ h9 => h9) rfl dX3_knowing_14 ?_
        refine lv_iload_n hx hb dX3_knowing_17 rfl (lv_at hl 2 rfl) ?_
        refine w_iald (k := k) hx hb hK hP 3 0 rfl rfl (by omega) (by decide) dX3_knowing_18 ?_
        refine lv_iconst (v := -1) hx hb dX3_knowing_19 (by decide) ?_
        refine lv_icmp_ne (tgt := 27) hx hb dX3_knowing_20 (by decide) (fun c_3 => ?_) (fun c_3 => ?_)
        · skip
          refine lv_iconst (v := nI 1) hx hb dX3_knowing_27 (by decide) ?_
          refine w_addN hx hb dX3_knowing_28 ?_
          refine lv_istore_n (lv' := [(1, .int (nI ((kwF fn k) + 1))), (0, .ref q0), (2, .int (nI k))]) hx hb dX3_knowing_29 rfl hl (by decide) rfl (fun ls hl => ?_)
          refine lv_iinc (v := nI (k + 1)) (lv' := [(2, .int (nI (k + 1))), (1, .int (nI ((kwF fn k) + 1))), (0, .ref q0)]) hx hb dX3_knowing_30 hl (k := 2) rfl w_inc1 (by decide) rfl (fun ls hl => ?_)
          refine lv_goto (tgt := 4) hx hb dX3_knowing_33 (by decide) ?_
          have he_4 : (nI ((kwF fn k) + 1) : Int32) = nI (kwF fn (k + 1)) := by simp [kwF, c_3]
          have hl := lv_cong hl (show ([(2, .int (nI (k + 1))), (1, .int (nI ((kwF fn k) + 1))), (0, .ref q0)] : List (Nat × Value)) = [(2, .int (nI ((k + 1)))), (1, .int (nI (kwF fn (k + 1)))), (0, .ref q0)] by rw [← he_4])
          exact ih4 (k + 1) (by omega) (by first | omega | with_reducible assumption | (first | with_reducible rfl | exact (if_pos (c_3)).symm | exact (if_neg (c_3)).symm | (simp [hn6, hk, c_2, c_3]; done) | omega | rfl)) ls (lv_sub hl [2, 1, 0] rfl)
        · skip
          refine lv_iconst (v := nI 0) hx hb dX3_knowing_23 (by decide) ?_
          refine lv_goto (tgt := 28) hx hb dX3_knowing_24 (by decide) ?_
          refine w_addN hx hb dX3_knowing_28 ?_
          refine lv_istore_n (lv' := [(1, .int (nI ((kwF fn k) + 0))), (0, .ref q0), (2, .int (nI k))]) hx hb dX3_knowing_29 rfl hl (by decide) rfl (fun ls hl => ?_)
          refine lv_iinc (v := nI (k + 1)) (lv' := [(2, .int (nI (k + 1))), (1, .int (nI ((kwF fn k) + 0))), (0, .ref q0)]) hx hb dX3_knowing_30 hl (k := 2) rfl w_inc1 (by decide) rfl (fun ls hl => ?_)
          refine lv_goto (tgt := 4) hx hb dX3_knowing_33 (by decide) ?_
          have he_5 : (nI ((kwF fn k) + 0) : Int32) = nI (kwF fn (k + 1)) := by simp [kwF, c_3]
          have hl := lv_cong hl (show ([(2, .int (nI (k + 1))), (1, .int (nI ((kwF fn k) + 0))), (0, .ref q0)] : List (Nat × Value)) = [(2, .int (nI ((k + 1)))), (1, .int (nI (kwF fn (k + 1)))), (0, .ref q0)] by rw [← he_5])
          exact ih4 (k + 1) (by omega) (by first | omega | with_reducible assumption | (first | with_reducible rfl | exact (if_pos (c_3)).symm | exact (if_neg (c_3)).symm | (simp [hn6, hk, c_2, c_3]; done) | omega | rfl)) ls (lv_sub hl [2, 1, 0] rfl)
  have he_6 : (nI 0 : Int32) = nI (kwF fn 0) := by first | with_reducible rfl | exact (if_pos (hn6)).symm | exact (if_neg (hn6)).symm | (simp [hn6]; done) | omega | rfl
  have hl := lv_cong hl (show ([(2, .int (nI 0)), (1, .int (nI 0)), (0, .ref q0)] : List (Nat × Value)) = [(2, .int (nI 0)), (1, .int (nI (kwF fn 0))), (0, .ref q0)] by rw [← he_6])
  exact lp4 (n - 0 + 1) (0) (Nat.lt_succ_self _) (by first | omega | with_reducible assumption | (first | with_reducible rfl | exact (if_pos (hn6)).symm | exact (if_neg (hn6)).symm | (simp [hn6]; done) | omega | rfl)) ls (lv_sub hl [2, 1, 0] rfl)
set_option maxHeartbeats 4000000 in
set_option maxRecDepth 100000 in
theorem k_X3_illOnes (l : Launch) (dC : Nat → ClassId) (dI : Nat → Nat → Nat) (cI cZ : ClassId) (q0 q1 q2 q3 q4 q5 q6 q7 : Nat) (fk fs fn fi fc fw ft : Nat → Int32) (n h : Nat) (th tt : Int32) (hn6 : n ≤ 6) : Met l yX3_illOnes wsX3_illOnes ({ frames := 0, cells := 0, slots := 0, locals := 0 }) (va_Pc [.ref q0] (PR (dC, dI) cI cZ [(q0, .inr (2, [.ref q1, .ref q2, .ref q3, .ref q4, .ref q5, .ref q6, .ref q7, .int (nI n), .int (nI h), .int (th), .int (tt)])), (q1, .inl (cI, 6, .inl (fk))), (q2, .inl (cI, 6, .inl (fs))), (q3, .inl (cI, 6, .inl (fn))), (q4, .inl (cZ, 6, .inl (fi))), (q5, .inl (cI, 8, .inl (fc))), (q6, .inl (cI, 8, .inl (fw))), (q7, .inl (cI, 8, .inl (ft)))])) (QRi (nI (ioF fi n))) 0 0 noF := by
  refine Met.ofW (cc := cX3_illOnes) (maxL := 3) (ret := (some .int)) (by decide) rfl ?_
  intro p e s m args below meth co s₁ B hml hv
  obtain ⟨rfl, hP, hK⟩ := hv
  have hx := B.exec
  have hb := B.bytes
  have hr := B.returns
  have hts := atoms_spec (ws := wsX3_illOnes) B.pre
  have hown : s.vm.findClass RX3 = some m.cls := findClass_of_methodNamed B.named
  have hlocks := B.notSynchronized
  have inX3 : ∀ w ∈ u_ws RX3 TX3 11, w ∈ wsX3_illOnes := by decide +kernel
  have lf21 := hts (.fieldLink RX3 21 "ThursdayRungs$School" "ill" "[Z") (by decide +kernel)
  have lf34 := hts (.fieldLink RX3 34 "ThursdayRungs$School" "size" "I") (by decide +kernel)
  have hl := lv_entry ([.ref q0]) (n := 3) (Nat.le_of_ble_eq_true rfl)
  rw [lg_entry_eq]
  generalize (lg_sl ([.ref q0]) ++ List.replicate (3 - (lg_sl ([.ref q0])).length) Slot.unset).toArray = ls at hl ⊢
  have hl : lv_has ls 3 [(0, .ref q0)] := hl
  refine lv_iconst (v := nI 0) hx hb dX3_illOnes_0 (by decide) ?_
  refine lv_istore_n (lv' := [(1, .int (nI 0)), (0, .ref q0)]) hx hb dX3_illOnes_1 rfl hl (by decide) rfl (fun ls hl => ?_)
  refine lv_iconst (v := nI 0) hx hb dX3_illOnes_2 (by decide) ?_
  refine lv_istore_n (lv' := [(2, .int (nI 0)), (1, .int (nI 0)), (0, .ref q0)]) hx hb dX3_illOnes_3 rfl hl (by decide) rfl (fun ls hl => ?_)
  have lp4 : ∀ (fuel : Nat) (k : Nat), n - k < fuel → (k ≤ n) → ∀ (ls : Array Slot), lv_has ls 3 [(0, .ref q0), (1, .int (nI (ioF fi k))), (2, .int (nI k))] → W p l e (headSpec wsX3_illOnes ({ frames := 0, cells := 0, slots := 0, locals := 0 })).room s m ([.ref q0] : List Value).toArray below meth co s.heap [] 0 0 (MQ below (QRi (nI (ioF fi n))) ([.ref q0] : List Value).toArray s 0 0 noF) (F0 m 4 ls []) := by
    intro fuel
    induction fuel with
    | zero => intro k h0; exact absurd h0 (Nat.not_lt_zero _)
    | succ fuel ih4 =>
      intro k hm_1 hk ls hl
      refine lv_iload_n hx hb dX3_illOnes_4 rfl (lv_at hl 2 rfl) ?_
      refine lv_aload_n hx hb dX3_illOnes_5 rfl (lv_at hl 0 rfl) ?_
      refine va_get (D := (dC, dI)) (ci := 2) (v := .int (nI n)) (C := RX3) (T := TX3) (N := 11) hx hb hts inX3 hown hK hP 0 rfl rfl 7 (by decide) lf34 (fun _ h9 => h9) rfl dX3_illOnes_6 ?_
      refine w_ci_ge (tgt := 35) hx hb (by omega) (by omega) dX3_illOnes_9 (by decide) (fun c_2 => ?_) (fun c_2 => ?_)
      · skip
        refine lv_iload_n hx hb dX3_illOnes_35 rfl (lv_at hl 1 rfl) ?_
        exact retRi hx hb hr hlocks (by rw [show k = n by omega]) dX3_illOnes_36
      · skip
        refine lv_iload_n hx hb dX3_illOnes_12 rfl (lv_at hl 1 rfl) ?_
        refine lv_aload_n hx hb dX3_illOnes_13 rfl (lv_at hl 0 rfl) ?_
        refine va_get (D := (dC, dI)) (ci := 2) (v := .ref q4) (C := RX3) (T := TX3) (N := 11) hx hb hts inX3 hown hK hP 0 rfl rfl 3 (by decide) lf21 (fun _ h9 => h9) rfl dX3_illOnes_14 ?_
        refine lv_iload_n hx hb dX3_illOnes_17 rfl (lv_at hl 2 rfl) ?_
        refine w_zald (k := k) hx hb hK hP 4 1 rfl rfl (by omega) (by decide) dX3_illOnes_18 ?_
        refine lv_if_eq (tgt := 26) hx hb dX3_illOnes_19 (by decide) (fun c_3 => ?_) (fun c_3 => ?_)
        · skip
          refine lv_iconst (v := nI 0) hx hb dX3_illOnes_26 (by decide) ?_
          refine w_addN hx hb dX3_illOnes_27 ?_
          refine lv_istore_n (lv' := [(1, .int (nI ((ioF fi k) + 0))), (0, .ref q0), (2, .int (nI k))]) hx hb dX3_illOnes_28 rfl hl (by decide) rfl (fun ls hl => ?_)
          refine lv_iinc (v := nI (k + 1)) (lv' := [(2, .int (nI (k + 1))), (1, .int (nI ((ioF fi k) + 0))), (0, .ref q0)]) hx hb dX3_illOnes_29 hl (k := 2) rfl w_inc1 (by decide) rfl (fun ls hl => ?_)
          refine lv_goto (tgt := 4) hx hb dX3_illOnes_32 (by decide) ?_
          have he_4 : (nI ((ioF fi k) + 0) : Int32) = nI (ioF fi (k + 1)) := by simp [ioF, nI_0, c_3]
          have hl := lv_cong hl (show ([(2, .int (nI (k + 1))), (1, .int (nI ((ioF fi k) + 0))), (0, .ref q0)] : List (Nat × Value)) = [(2, .int (nI ((k + 1)))), (1, .int (nI (ioF fi (k + 1)))), (0, .ref q0)] by rw [← he_4])
          exact ih4 (k + 1) (by omega) (by first | omega | with_reducible assumption | (first | with_reducible rfl | exact (if_pos (c_3)).symm | exact (if_neg (c_3)).symm | (simp [hn6, hk, c_2, c_3]; done) | omega | rfl)) ls (lv_sub hl [2, 1, 0] rfl)
        · skip
          refine lv_iconst (v := nI 1) hx hb dX3_illOnes_22 (by decide) ?_
          refine lv_goto (tgt := 27) hx hb dX3_illOnes_23 (by decide) ?_
          refine w_addN hx hb dX3_illOnes_27 ?_
          refine lv_istore_n (lv' := [(1, .int (nI ((ioF fi k) + 1))), (0, .ref q0), (2, .int (nI k))]) hx hb dX3_illOnes_28 rfl hl (by decide) rfl (fun ls hl => ?_)
          refine lv_iinc (v := nI (k + 1)) (lv' := [(2, .int (nI (k + 1))), (1, .int (nI ((ioF fi k) + 1))), (0, .ref q0)]) hx hb dX3_illOnes_29 hl (k := 2) rfl w_inc1 (by decide) rfl (fun ls hl => ?_)
          refine lv_goto (tgt := 4) hx hb dX3_illOnes_32 (by decide) ?_
          have he_5 : (nI ((ioF fi k) + 1) : Int32) = nI (ioF fi (k + 1)) := by simp [ioF, nI_0, c_3]
          have hl := lv_cong hl (show ([(2, .int (nI (k + 1))), (1, .int (nI ((ioF fi k) + 1))), (0, .ref q0)] : List (Nat × Value)) = [(2, .int (nI ((k + 1)))), (1, .int (nI (ioF fi (k + 1)))), (0, .ref q0)] by rw [← he_5])
          exact ih4 (k + 1) (by omega) (by first | omega | with_reducible assumption | (first | with_reducible rfl | exact (if_pos (c_3)).symm | exact (if_neg (c_3)).symm | (simp [hn6, hk, c_2, c_3]; done) | omega | rfl)) ls (lv_sub hl [2, 1, 0] rfl)
  have he_6 : (nI 0 : Int32) = nI (ioF fi 0) := by first | with_reducible rfl | exact (if_pos (hn6)).symm | exact (if_neg (hn6)).symm | (simp [hn6]; done) | omega | rfl
  have hl := lv_cong hl (show ([(2, .int (nI 0)), (1, .int (nI 0)), (0, .ref q0)] : List (Nat × Value)) = [(2, .int (nI 0)), (1, .int (nI (ioF fi 0))), (0, .ref q0)] by rw [← he_6])
  exact lp4 (n - 0 + 1) (0) (Nat.lt_succ_self _) (by first | omega | with_reducible assumption | (first | with_reducible rfl | exact (if_pos (hn6)).symm | exact (if_neg (hn6)).symm | (simp [hn6]; done) | omega | rfl)) ls (lv_sub hl [2, 1, 0] rfl)
