set_option maxHeartbeats 4000000 in
set_option maxRecDepth 100000 in
theorem k_J6_bitCount_0f7a4 (l : Launch) (dC : Nat → ClassId) (dI : Nat → Nat → Nat) (cI cZ : ClassId) (x : Int32) : Met l yJ6_bitCount_0f7a4 wsJ6_bitCount_0f7a4 ({ frames := 0, cells := 0, slots := 0, locals := 0 }) (va_Pc [.int (x)] (PR (dC, dI) cI cZ [])) (QRi ((bcx x))) 0 0 noF := by
  refine Met.ofW (cc := cJ6_bitCount_0f7a4) (maxL := 1) (ret := (some .int)) (by decide) rfl ?_
  intro p e s m args below meth co s₁ B hml hv
  obtain ⟨rfl, hP, hK⟩ := hv
  have hx := B.exec
  have hb := B.bytes
  have hr := B.returns
  have hts := atoms_spec (ws := wsJ6_bitCount_0f7a4) B.pre
  have hown : s.vm.findClass RJ6 = some m.cls := findClass_of_methodNamed B.named
  have hlocks := B.notSynchronized
  have lc265 := hts (.constant RJ6 265 (1431655765)) (by decide +kernel)
  have lc266 := hts (.constant RJ6 266 (858993459)) (by decide +kernel)
  have lc267 := hts (.constant RJ6 267 (252645135)) (by decide +kernel)
  have hl := lv_entry ([.int (x)]) (n := 1) (Nat.le_of_ble_eq_true rfl)
  rw [lg_entry_eq]
  generalize (lg_sl ([.int (x)]) ++ List.replicate (1 - (lg_sl ([.int (x)])).length) Slot.unset).toArray = ls at hl ⊢
  have hl : lv_has ls 1 [(0, .int (x))] := hl
  refine lv_iload_n hx hb dJ6_bitCount_0f7a4_0 rfl (lv_at hl 0 rfl) ?_
  refine lv_iload_n hx hb dJ6_bitCount_0f7a4_1 rfl (lv_at hl 0 rfl) ?_
  refine lv_iconst (v := nI 1) hx hb dJ6_bitCount_0f7a4_2 (by decide) ?_
  refine lv_iushr (v := ((x).toUInt32 >>> ((nI 1).toUInt32 &&& Int32.toUInt32 31)).toInt32) hx hb dJ6_bitCount_0f7a4_3 rfl ?_
  refine lv_ldcw (v := 1431655765) hx hb hown lc265 dJ6_bitCount_0f7a4_4 ?_
  refine lv_iand hx hb dJ6_bitCount_0f7a4_7 ?_
  refine lv_isub hx hb dJ6_bitCount_0f7a4_8 ?_
  rw [show ((x) - ((((x).toUInt32 >>> ((nI 1).toUInt32 &&& Int32.toUInt32 31)).toInt32) &&& ((1431655765 : Int32))) : Int32) = (bc1 x) from rfl]
  refine lv_istore_n (lv' := [(0, .int ((bc1 x)))]) hx hb dJ6_bitCount_0f7a4_9 rfl hl (by decide) rfl (fun ls hl => ?_)
  refine lv_iload_n hx hb dJ6_bitCount_0f7a4_10 rfl (lv_at hl 0 rfl) ?_
  refine lv_ldcw (v := 858993459) hx hb hown lc266 dJ6_bitCount_0f7a4_11 ?_
  refine lv_iand hx hb dJ6_bitCount_0f7a4_14 ?_
  refine lv_iload_n hx hb dJ6_bitCount_0f7a4_15 rfl (lv_at hl 0 rfl) ?_
  refine lv_iconst (v := nI 2) hx hb dJ6_bitCount_0f7a4_16 (by decide) ?_
  refine lv_iushr (v := (((bc1 x)).toUInt32 >>> ((nI 2).toUInt32 &&& Int32.toUInt32 31)).toInt32) hx hb dJ6_bitCount_0f7a4_17 rfl ?_
  refine lv_ldcw (v := 858993459) hx hb hown lc266 dJ6_bitCount_0f7a4_18 ?_
  refine lv_iand hx hb dJ6_bitCount_0f7a4_21 ?_
  refine lv_iadd hx hb dJ6_bitCount_0f7a4_22 ?_
  rw [show ((((bc1 x)) &&& ((858993459 : Int32))) + (((((bc1 x)).toUInt32 >>> ((nI 2).toUInt32 &&& Int32.toUInt32 31)).toInt32) &&& ((858993459 : Int32))) : Int32) = (bc2 (bc1 x)) from rfl]
  refine lv_istore_n (lv' := [(0, .int ((bc2 (bc1 x))))]) hx hb dJ6_bitCount_0f7a4_23 rfl hl (by decide) rfl (fun ls hl => ?_)
  refine lv_iload_n hx hb dJ6_bitCount_0f7a4_24 rfl (lv_at hl 0 rfl) ?_
  refine lv_iload_n hx hb dJ6_bitCount_0f7a4_25 rfl (lv_at hl 0 rfl) ?_
  refine lv_iconst (v := nI 4) hx hb dJ6_bitCount_0f7a4_26 (by decide) ?_
  refine lv_iushr (v := (((bc2 (bc1 x))).toUInt32 >>> ((nI 4).toUInt32 &&& Int32.toUInt32 31)).toInt32) hx hb dJ6_bitCount_0f7a4_27 rfl ?_
  refine lv_iadd hx hb dJ6_bitCount_0f7a4_28 ?_
  refine lv_ldcw (v := 252645135) hx hb hown lc267 dJ6_bitCount_0f7a4_29 ?_
  refine lv_iand hx hb dJ6_bitCount_0f7a4_32 ?_
  rw [show ((((bc2 (bc1 x))) + ((((bc2 (bc1 x))).toUInt32 >>> ((nI 4).toUInt32 &&& Int32.toUInt32 31)).toInt32)) &&& ((252645135 : Int32)) : Int32) = (bc3 (bc2 (bc1 x))) from rfl]
  refine lv_istore_n (lv' := [(0, .int ((bc3 (bc2 (bc1 x)))))]) hx hb dJ6_bitCount_0f7a4_33 rfl hl (by decide) rfl (fun ls hl => ?_)
  refine lv_iload_n hx hb dJ6_bitCount_0f7a4_34 rfl (lv_at hl 0 rfl) ?_
  refine lv_iload_n hx hb dJ6_bitCount_0f7a4_35 rfl (lv_at hl 0 rfl) ?_
  refine lv_bipush (v := nI 8) hx hb dJ6_bitCount_0f7a4_36 (by decide) ?_
  refine lv_iushr (v := (((bc3 (bc2 (bc1 x)))).toUInt32 >>> ((nI 8).toUInt32 &&& Int32.toUInt32 31)).toInt32) hx hb dJ6_bitCount_0f7a4_38 rfl ?_
  refine lv_iadd hx hb dJ6_bitCount_0f7a4_39 ?_
  rw [show (((bc3 (bc2 (bc1 x)))) + ((((bc3 (bc2 (bc1 x)))).toUInt32 >>> ((nI 8).toUInt32 &&& Int32.toUInt32 31)).toInt32) : Int32) = (bc4 (bc3 (bc2 (bc1 x)))) from rfl]
  refine lv_istore_n (lv' := [(0, .int ((bc4 (bc3 (bc2 (bc1 x))))))]) hx hb dJ6_bitCount_0f7a4_40 rfl hl (by decide) rfl (fun ls hl => ?_)
  refine lv_iload_n hx hb dJ6_bitCount_0f7a4_41 rfl (lv_at hl 0 rfl) ?_
  refine lv_iload_n hx hb dJ6_bitCount_0f7a4_42 rfl (lv_at hl 0 rfl) ?_
  refine lv_bipush (v := nI 16) hx hb dJ6_bitCount_0f7a4_43 (by decide) ?_
  refine lv_iushr (v := (((bc4 (bc3 (bc2 (bc1 x))))).toUInt32 >>> ((nI 16).toUInt32 &&& Int32.toUInt32 31)).toInt32) hx hb dJ6_bitCount_0f7a4_45 rfl ?_
  refine lv_iadd hx hb dJ6_bitCount_0f7a4_46 ?_
  rw [show (((bc4 (bc3 (bc2 (bc1 x))))) + ((((bc4 (bc3 (bc2 (bc1 x))))).toUInt32 >>> ((nI 16).toUInt32 &&& Int32.toUInt32 31)).toInt32) : Int32) = (bc5 (bc4 (bc3 (bc2 (bc1 x))))) from rfl]
  refine lv_istore_n (lv' := [(0, .int ((bc5 (bc4 (bc3 (bc2 (bc1 x)))))))]) hx hb dJ6_bitCount_0f7a4_47 rfl hl (by decide) rfl (fun ls hl => ?_)
  refine lv_iload_n hx hb dJ6_bitCount_0f7a4_48 rfl (lv_at hl 0 rfl) ?_
  refine lv_bipush (v := nI 63) hx hb dJ6_bitCount_0f7a4_49 (by decide) ?_
  refine lv_iand hx hb dJ6_bitCount_0f7a4_51 ?_
  exact retRi hx hb hr hlocks (by rfl) dJ6_bitCount_0f7a4_52
set_option maxHeartbeats 4000000 in
set_option maxRecDepth 100000 in
theorem k_X3_unlikeRules (l : Launch) (dC : Nat → ClassId) (dI : Nat → Nat → Nat) (cI cZ : ClassId) (q0 q1 q2 q3 q4 q5 q6 q7 : Nat) (fk fs fn fi fc fw ft : Nat → Int32) (n h : Nat) (th tt : Int32) (hn6 : n ≤ 6) : Met l yX3_unlikeRules wsX3_unlikeRules ({ frames := 1, cells := 0, slots := 0, locals := 20 }) (va_Pc [.ref q0] (PR (dC, dI) cI cZ [(q0, .inr (2, [.ref q1, .ref q2, .ref q3, .ref q4, .ref q5, .ref q6, .ref q7, .int (nI n), .int (nI h), .int (th), .int (tt)])), (q1, .inl (cI, 6, .inl (fk))), (q2, .inl (cI, 6, .inl (fs))), (q3, .inl (cI, 6, .inl (fn))), (q4, .inl (cZ, 6, .inl (fi))), (q5, .inl (cI, 8, .inl (fc))), (q6, .inl (cI, 8, .inl (fw))), (q7, .inl (cI, 8, .inl (ft)))])) (QRi ((bcx (ulF fn n)))) 0 0 noF := by
  refine Met.ofW (cc := cX3_unlikeRules) (maxL := 3) (ret := (some .int)) (by decide) rfl ?_
  intro p e s m args below meth co s₁ B hml hv
  obtain ⟨rfl, hP, hK⟩ := hv
  have hx := B.exec
  have hb := B.bytes
  have hr := B.returns
  have hts := atoms_spec (ws := wsX3_unlikeRules) B.pre
  have hown : s.vm.findClass RX3 = some m.cls := findClass_of_methodNamed B.named
  have hlocks := B.notSynchronized
  have inX3 : ∀ w ∈ u_ws RX3 TX3 11, w ∈ wsX3_unlikeRules := by decide +kernel
  have lf18 := hts (.fieldLink RX3 18 "ThursdayRungs$School" "known" "[I") (by decide +kernel)
  have lf34 := hts (.fieldLink RX3 34 "ThursdayRungs$School" "size" "I") (by decide +kernel)
  have hl := lv_entry ([.ref q0]) (n := 3) (Nat.le_of_ble_eq_true rfl)
  rw [lg_entry_eq]
  generalize (lg_sl ([.ref q0]) ++ List.replicate (3 - (lg_sl ([.ref q0])).length) Slot.unset).toArray = ls at hl ⊢
  have hl : lv_has ls 3 [(0, .ref q0)] := hl
  refine lv_iconst (v := nI 0) hx hb dX3_unlikeRules_0 (by decide) ?_
  refine lv_istore_n (lv' := [(1, .int (nI 0)), (0, .ref q0)]) hx hb dX3_unlikeRules_1 rfl hl (by decide) rfl (fun ls hl => ?_)
  refine lv_iconst (v := nI 0) hx hb dX3_unlikeRules_2 (by decide) ?_
  refine lv_istore_n (lv' := [(2, .int (nI 0)), (1, .int (nI 0)), (0, .ref q0)]) hx hb dX3_unlikeRules_3 rfl hl (by decide) rfl (fun ls hl => ?_)
  have lp4 : ∀ (fuel : Nat) (k : Nat), n - k < fuel → k ≤ n → ∀ (ls : Array Slot), lv_has ls 3 [(0, .ref q0), (1, .int ((ulF fn k))), (2, .int (nI k))] → W p l e (headSpec wsX3_unlikeRules ({ frames := 1, cells := 0, slots := 0, locals := 20 })).room s m ([.ref q0] : List Value).toArray below meth co s.heap [] 0 0 (MQ below (QRi ((bcx (ulF fn n)))) ([.ref q0] : List Value).toArray s 0 0 noF) (F0 m 4 ls []) := by
    intro fuel
    induction fuel with
    | zero => intro k h0; exact absurd h0 (Nat.not_lt_zero _)
    | succ fuel ih4 =>
      intro k hm_1 hk ls hl
      refine lv_iload_n hx hb dX3_unlikeRules_4 rfl (lv_at hl 2 rfl) ?_
      refine lv_aload_n hx hb dX3_unlikeRules_5 rfl (lv_at hl 0 rfl) ?_
      refine va_get (D := (dC, dI)) (ci := 2) (v := .int (nI n)) (C := RX3) (T := TX3) (N := 11) hx hb hts inX3 hown hK hP 0 rfl rfl 7 (by decide) lf34 (fun _ h9 => h9) rfl dX3_unlikeRules_6 ?_
      refine w_ci_ge (tgt := 43) hx hb (by omega) (by omega) dX3_unlikeRules_9 (by decide) (fun c_2 => ?_) (fun c_2 => ?_)
      · skip
        refine lv_iload_n hx hb dX3_unlikeRules_43 rfl (lv_at hl 1 rfl) ?_
        have hPc := hP.sub (ws' := []) [] rfl
        refine callRi (v := (bcx (ulF fn k))) (W.runS (As := [.int ((ulF fn k))]) (rest := []) ⟨hx, hb, hml, hown, hts⟩ (k_J6_bitCount_0f7a4 l dC dI cI cZ ((ulF fn k))) (va_cwS 1 hts gX3_unlikeRules_J6_bitCount_0f7a4 rfl rfl rfl (by decide +kernel) ⟨Nat.le_of_ble_eq_true rfl, Nat.le_of_ble_eq_true rfl⟩) (preRS hK hPc) rfl rfl hl.1 rfl (lv_room (Nat.le_of_ble_eq_true rfl)) dX3_unlikeRules_44 ⟨Nat.zero_le _, Nat.zero_le _⟩) ?_
        exact retRi hx hb hr hlocks (by rw [show k = n by omega]) dX3_unlikeRules_47
      · skip
        refine lv_iload_n hx hb dX3_unlikeRules_12 rfl (lv_at hl 1 rfl) ?_
        refine lv_aload_n hx hb dX3_unlikeRules_13 rfl (lv_at hl 0 rfl) ?_
        refine va_get (D := (dC, dI)) (ci := 2) (v := .ref q3) (C := RX3) (T := TX3) (N := 11) hx hb hts inX3 hown hK hP 0 rfl rfl 2 (by decide) lf18 (fun _ h9 => h9) rfl dX3_unlikeRules_14 ?_
        refine lv_iload_n hx hb dX3_unlikeRules_17 rfl (lv_at hl 2 rfl) ?_
        refine w_iald (k := k) hx hb hK hP 3 0 rfl rfl (by omega) (by decide) dX3_unlikeRules_18 ?_
        refine lv_iconst (v := -1) hx hb dX3_unlikeRules_19 (by decide) ?_
        refine lv_icmp_ne (tgt := 27) hx hb dX3_unlikeRules_20 (by decide) (fun c_3 => ?_) (fun c_3 => ?_)
        · skip
          refine lv_iconst (v := nI 1) hx hb dX3_unlikeRules_27 (by decide) ?_
          refine lv_aload_n hx hb dX3_unlikeRules_28 rfl (lv_at hl 0 rfl) ?_
          refine va_get (D := (dC, dI)) (ci := 2) (v := .ref q3) (C := RX3) (T := TX3) (N := 11) hx hb hts inX3 hown hK hP 0 rfl rfl 2 (by decide) lf18 (fun _ h9 => h9) rfl dX3_unlikeRules_29 ?_
          refine lv_iload_n hx hb dX3_unlikeRules_32 rfl (lv_at hl 2 rfl) ?_
          refine w_iald (k := k) hx hb hK hP 3 0 rfl rfl (by omega) (by decide) dX3_unlikeRules_33 ?_
          refine lv_ishl hx hb dX3_unlikeRules_34 ?_
          refine lv_ior hx hb dX3_unlikeRules_35 ?_
          refine lv_istore_n (lv' := [(1, .int (((ulF fn k)) ||| ((nI 1) <<< ((fn k) &&& 31)))), (0, .ref q0), (2, .int (nI k))]) hx hb dX3_unlikeRules_36 rfl hl (by decide) rfl (fun ls hl => ?_)
          refine lv_iinc (v := nI (k + 1)) (lv' := [(2, .int (nI (k + 1))), (1, .int (((ulF fn k)) ||| ((nI 1) <<< ((fn k) &&& 31)))), (0, .ref q0)]) hx hb dX3_unlikeRules_37 hl (k := 2) rfl w_inc1 (by decide) rfl (fun ls hl => ?_)
          refine lv_goto (tgt := 4) hx hb dX3_unlikeRules_40 (by decide) ?_
          have he_4 : (((ulF fn k)) ||| ((nI 1) <<< ((fn k) &&& 31)) : Int32) = (ulF fn (k + 1)) := by first | (rw [ulF, if_neg c_3]; done) | (rw [ulF, if_pos c_3]; exact Int32.or_zero)
          have hl := lv_cong hl (show ([(2, .int (nI (k + 1))), (1, .int (((ulF fn k)) ||| ((nI 1) <<< ((fn k) &&& 31)))), (0, .ref q0)] : List (Nat × Value)) = [(2, .int (nI ((k + 1)))), (1, .int ((ulF fn (k + 1)))), (0, .ref q0)] by rw [← he_4])
          exact ih4 (k + 1) (by omega) (by first | omega | with_reducible assumption | (first | with_reducible rfl | exact (if_pos (c_3)).symm | exact (if_neg (c_3)).symm | (simp [hn6, hk, c_2, c_3]; done) | omega | rfl)) ls (lv_sub hl [2, 1, 0] rfl)
        · skip
          refine lv_iconst (v := nI 0) hx hb dX3_unlikeRules_23 (by decide) ?_
          refine lv_goto (tgt := 35) hx hb dX3_unlikeRules_24 (by decide) ?_
          refine lv_ior hx hb dX3_unlikeRules_35 ?_
          refine lv_istore_n (lv' := [(1, .int (((ulF fn k)) ||| (nI 0))), (0, .ref q0), (2, .int (nI k))]) hx hb dX3_unlikeRules_36 rfl hl (by decide) rfl (fun ls hl => ?_)
          refine lv_iinc (v := nI (k + 1)) (lv' := [(2, .int (nI (k + 1))), (1, .int (((ulF fn k)) ||| (nI 0))), (0, .ref q0)]) hx hb dX3_unlikeRules_37 hl (k := 2) rfl w_inc1 (by decide) rfl (fun ls hl => ?_)
          refine lv_goto (tgt := 4) hx hb dX3_unlikeRules_40 (by decide) ?_
          have he_5 : (((ulF fn k)) ||| (nI 0) : Int32) = (ulF fn (k + 1)) := by first | (rw [ulF, if_neg c_3]; done) | (rw [ulF, if_pos c_3]; exact Int32.or_zero)
          have hl := lv_cong hl (show ([(2, .int (nI (k + 1))), (1, .int (((ulF fn k)) ||| (nI 0))), (0, .ref q0)] : List (Nat × Value)) = [(2, .int (nI ((k + 1)))), (1, .int ((ulF fn (k + 1)))), (0, .ref q0)] by rw [← he_5])
          exact ih4 (k + 1) (by omega) (by first | omega | with_reducible assumption | (first | with_reducible rfl | exact (if_pos (c_3)).symm | exact (if_neg (c_3)).symm | (simp [hn6, hk, c_2, c_3]; done) | omega | rfl)) ls (lv_sub hl [2, 1, 0] rfl)
  have he_6 : (nI 0 : Int32) = (ulF fn 0) := by first | with_reducible rfl | exact (if_pos (hn6)).symm | exact (if_neg (hn6)).symm | (simp [hn6]; done) | omega | rfl
  have hl := lv_cong hl (show ([(2, .int (nI 0)), (1, .int (nI 0)), (0, .ref q0)] : List (Nat × Value)) = [(2, .int (nI 0)), (1, .int ((ulF fn 0))), (0, .ref q0)] by rw [← he_6])
  exact lp4 (n - 0 + 1) (0) (Nat.lt_succ_self _) (by first | omega | with_reducible assumption | (first | with_reducible rfl | exact (if_pos (hn6)).symm | exact (if_neg (hn6)).symm | (simp [hn6]; done) | omega | rfl)) ls (lv_sub hl [2, 1, 0] rfl)
