set_option maxHeartbeats 4000000 in
set_option maxRecDepth 100000 in
/-- Kind.isA -/
theorem k_X1_isA (l : Launch) (dC : Nat → ClassId) (dI : Nat → Nat → Nat) (cI cZ : ClassId) (k : Int32) (o : Int32) : Met l yX1_isA wsX1_isA ({ frames := 0, cells := 0, slots := 0, locals := 0 }) (va_Pc [.int (k), .int (o)] (PR (dC, dI) cI cZ [])) (QRi ((if (o = nI 0 ∨ k = o ∨ (k = nI 4 ∧ o = nI 1)) then nI 1 else nI 0))) 0 0 noF := by
  refine Met.ofW (cc := cX1_isA) (maxL := 2) (ret := (some .boolean)) (by decide) rfl ?_
  intro p e s m args below meth co s₁ B hml hv
  obtain ⟨rfl, hP, hK⟩ := hv
  have hx := B.exec
  have hb := B.bytes
  have hr := B.returns
  have hts := atoms_spec (ws := wsX1_isA) B.pre
  have hown : s.vm.findClass RX1 = some m.cls := findClass_of_methodNamed B.named
  have hlocks := B.notSynchronized
  have hl := lv_entry ([.int (k), .int (o)]) (n := 2) (Nat.le_of_ble_eq_true rfl)
  rw [lg_entry_eq]
  generalize (lg_sl ([.int (k), .int (o)]) ++ List.replicate (2 - (lg_sl ([.int (k), .int (o)])).length) Slot.unset).toArray = ls at hl ⊢
  have hl : lv_has ls 2 [(0, .int (k)), (1, .int (o))] := hl
  refine lv_iload_n hx hb dX1_isA_0 rfl (lv_at hl 1 rfl) ?_
  refine lv_if_eq (tgt := 19) hx hb dX1_isA_1 (by decide) (fun c_1 => ?_) (fun c_1 => ?_)
  · skip
    refine lv_iconst (v := nI 1) hx hb dX1_isA_19 (by decide) ?_
    refine lv_goto (tgt := 24) hx hb dX1_isA_20 (by decide) ?_
    exact retRz hx hb hr hlocks rfl (by simp_all [nI]) dX1_isA_24
  · skip
    refine lv_iload_n hx hb dX1_isA_4 rfl (lv_at hl 0 rfl) ?_
    refine lv_iload_n hx hb dX1_isA_5 rfl (lv_at hl 1 rfl) ?_
    refine lv_icmp_eq (tgt := 19) hx hb dX1_isA_6 (by decide) (fun c_2 => ?_) (fun c_2 => ?_)
    · skip
      refine lv_iconst (v := nI 1) hx hb dX1_isA_19 (by decide) ?_
      refine lv_goto (tgt := 24) hx hb dX1_isA_20 (by decide) ?_
      exact retRz hx hb hr hlocks rfl (by simp_all [nI]) dX1_isA_24
    · skip
      refine lv_iload_n hx hb dX1_isA_9 rfl (lv_at hl 0 rfl) ?_
      refine lv_iconst (v := nI 4) hx hb dX1_isA_10 (by decide) ?_
      refine lv_icmp_ne (tgt := 23) hx hb dX1_isA_11 (by decide) (fun c_3 => ?_) (fun c_3 => ?_)
      · skip
        refine lv_iconst (v := nI 0) hx hb dX1_isA_23 (by decide) ?_
        exact retRz hx hb hr hlocks rfl (by simp_all [nI]) dX1_isA_24
      · skip
        refine lv_iload_n hx hb dX1_isA_14 rfl (lv_at hl 1 rfl) ?_
        refine lv_iconst (v := nI 1) hx hb dX1_isA_15 (by decide) ?_
        refine lv_icmp_ne (tgt := 23) hx hb dX1_isA_16 (by decide) (fun c_4 => ?_) (fun c_4 => ?_)
        · skip
          refine lv_iconst (v := nI 0) hx hb dX1_isA_23 (by decide) ?_
          exact retRz hx hb hr hlocks rfl (by simp_all [nI]) dX1_isA_24
        · skip
          refine lv_iconst (v := nI 1) hx hb dX1_isA_19 (by decide) ?_
          refine lv_goto (tgt := 24) hx hb dX1_isA_20 (by decide) ?_
          exact retRz hx hb hr hlocks rfl (by simp_all [nI]) dX1_isA_24
set_option maxHeartbeats 4000000 in
set_option maxRecDepth 100000 in
/-- Kind.passesOn -/
theorem k_X1_passesOn (l : Launch) (dC : Nat → ClassId) (dI : Nat → Nat → Nat) (cI cZ : ClassId) (k : Int32) (sl : Int32) (r : Int32) : Met l yX1_passesOn wsX1_passesOn ({ frames := 0, cells := 0, slots := 0, locals := 0 }) (va_Pc [.int (k), .int (sl), .int (r)] (PR (dC, dI) cI cZ [])) (QRi ((tb k sl r))) 0 0 noF := by
  refine Met.ofW (cc := cX1_passesOn) (maxL := 3) (ret := (some .int)) (by decide) rfl ?_
  intro p e s m args below meth co s₁ B hml hv
  obtain ⟨rfl, hP, hK⟩ := hv
  have hx := B.exec
  have hb := B.bytes
  have hr := B.returns
  have hts := atoms_spec (ws := wsX1_passesOn) B.pre
  have hown : s.vm.findClass RX1 = some m.cls := findClass_of_methodNamed B.named
  have hlocks := B.notSynchronized
  have hl := lv_entry ([.int (k), .int (sl), .int (r)]) (n := 3) (Nat.le_of_ble_eq_true rfl)
  rw [lg_entry_eq]
  generalize (lg_sl ([.int (k), .int (sl), .int (r)]) ++ List.replicate (3 - (lg_sl ([.int (k), .int (sl), .int (r)])).length) Slot.unset).toArray = ls at hl ⊢
  have hl : lv_has ls 3 [(0, .int (k)), (1, .int (sl)), (2, .int (r))] := hl
  refine lv_iload_n hx hb dX1_passesOn_0 rfl (lv_at hl 0 rfl) ?_
  by_cases w_1 : k = nI 1
  · skip
    refine lv_tableIn (tgt := 32) hx hb dX1_passesOn_1 (by rw [w_1]; decide) (by rw [w_1]; decide) (by rw [w_1]; rfl) (by decide) ?_
    refine lv_iload_n hx hb dX1_passesOn_32 rfl (lv_at hl 2 rfl) ?_
    exact retRi hx hb hr hlocks (by simp_all [tb, nI]) dX1_passesOn_33
  by_cases w_2 : k = nI 2
  · skip
    refine lv_tableIn (tgt := 34) hx hb dX1_passesOn_1 (by rw [w_2]; decide) (by rw [w_2]; decide) (by rw [w_2]; rfl) (by decide) ?_
    refine lv_iload_n hx hb dX1_passesOn_34 rfl (lv_at hl 1 rfl) ?_
    refine lv_bipush (v := nI 12) hx hb dX1_passesOn_35 (by decide) ?_
    refine lv_iadd hx hb dX1_passesOn_37 ?_
    refine lv_iload_n hx hb dX1_passesOn_38 rfl (lv_at hl 2 rfl) ?_
    refine lv_isub hx hb dX1_passesOn_39 ?_
    refine lv_bipush (v := nI 12) hx hb dX1_passesOn_40 (by decide) ?_
    refine w_rem hx hb (by decide) dX1_passesOn_42 ?_
    exact retRi hx hb hr hlocks (by simp_all [tb, nI]) dX1_passesOn_43
  by_cases w_3 : k = nI 3
  · skip
    refine lv_tableIn (tgt := 44) hx hb dX1_passesOn_1 (by rw [w_3]; decide) (by rw [w_3]; decide) (by rw [w_3]; rfl) (by decide) ?_
    refine lv_iload_n hx hb dX1_passesOn_44 rfl (lv_at hl 2 rfl) ?_
    refine lv_iload_n hx hb dX1_passesOn_45 rfl (lv_at hl 2 rfl) ?_
    refine lv_iconst (v := nI 2) hx hb dX1_passesOn_46 (by decide) ?_
    refine w_rem hx hb (by decide) dX1_passesOn_47 ?_
    refine lv_isub hx hb dX1_passesOn_48 ?_
    refine lv_iload_n hx hb dX1_passesOn_49 rfl (lv_at hl 1 rfl) ?_
    refine lv_iadd hx hb dX1_passesOn_50 ?_
    refine lv_bipush (v := nI 12) hx hb dX1_passesOn_51 (by decide) ?_
    refine w_rem hx hb (by decide) dX1_passesOn_53 ?_
    exact retRi hx hb hr hlocks (by simp_all [tb, nI]) dX1_passesOn_54
  by_cases w_4 : k = nI 4
  · skip
    refine lv_tableIn (tgt := 55) hx hb dX1_passesOn_1 (by rw [w_4]; decide) (by rw [w_4]; decide) (by rw [w_4]; rfl) (by decide) ?_
    refine lv_iconst (v := nI 2) hx hb dX1_passesOn_55 (by decide) ?_
    refine lv_iload_n hx hb dX1_passesOn_56 rfl (lv_at hl 2 rfl) ?_
    refine lv_imul hx hb dX1_passesOn_57 ?_
    refine lv_bipush (v := nI 12) hx hb dX1_passesOn_58 (by decide) ?_
    refine w_rem hx hb (by decide) dX1_passesOn_60 ?_
    exact retRi hx hb hr hlocks (by simp_all [tb, nI]) dX1_passesOn_61
  have hsw : ¬ k = nI 1 ∧ ¬ k = nI 2 ∧ ¬ k = nI 3 ∧ ¬ k = nI 4 := ⟨w_1, w_2, w_3, w_4⟩
  refine lv_tableOut (tgt := 62) hx hb dX1_passesOn_1 (by have z0 := w_tne (k := 1) (by decide) (hsw.1); have z1 := w_tne (k := 2) (by decide) (hsw.2.1); have z2 := w_tne (k := 3) (by decide) (hsw.2.2.1); have z3 := w_tne (k := 4) (by decide) (hsw.2.2.2); omega) (by decide) ?_
  refine lv_iload_n hx hb dX1_passesOn_62 rfl (lv_at hl 2 rfl) ?_
  refine lv_iload_n hx hb dX1_passesOn_63 rfl (lv_at hl 1 rfl) ?_
  refine lv_iadd hx hb dX1_passesOn_64 ?_
  refine lv_bipush (v := nI 12) hx hb dX1_passesOn_65 (by decide) ?_
  refine w_rem hx hb (by decide) dX1_passesOn_67 ?_
  exact retRi hx hb hr hlocks (by simp_all [tb, nI]) dX1_passesOn_68
set_option maxHeartbeats 4000000 in
set_option maxRecDepth 100000 in
theorem k_X3_isNone (l : Launch) (dC : Nat → ClassId) (dI : Nat → Nat → Nat) (cI cZ : ClassId) (q0 q1 q2 q3 q4 q5 q6 q7 : Nat) (fk fs fn fi fc fw ft : Nat → Int32) (n h : Nat) (th tt : Int32) (hn6 : n ≤ 6) : Met l yX3_isNone wsX3_isNone ({ frames := 0, cells := 0, slots := 0, locals := 0 }) (va_Pc [.ref q0] (PR (dC, dI) cI cZ [(q0, .inr (2, [.ref q1, .ref q2, .ref q3, .ref q4, .ref q5, .ref q6, .ref q7, .int (nI n), .int (nI h), .int (th), .int (tt)])), (q1, .inl (cI, 6, .inl (fk))), (q2, .inl (cI, 6, .inl (fs))), (q3, .inl (cI, 6, .inl (fn))), (q4, .inl (cZ, 6, .inl (fi))), (q5, .inl (cI, 8, .inl (fc))), (q6, .inl (cI, 8, .inl (fw))), (q7, .inl (cI, 8, .inl (ft)))])) (QRi ((if (n = 0) then nI 1 else nI 0))) 0 0 noF := by
  refine Met.ofW (cc := cX3_isNone) (maxL := 1) (ret := (some .boolean)) (by decide) rfl ?_
  intro p e s m args below meth co s₁ B hml hv
  obtain ⟨rfl, hP, hK⟩ := hv
  have hx := B.exec
  have hb := B.bytes
  have hr := B.returns
  have hts := atoms_spec (ws := wsX3_isNone) B.pre
  have hown : s.vm.findClass RX3 = some m.cls := findClass_of_methodNamed B.named
  have hlocks := B.notSynchronized
  have inX3 : ∀ w ∈ u_ws RX3 TX3 11, w ∈ wsX3_isNone := by decide +kernel
  have lf34 := hts (.fieldLink RX3 34 "ThursdayRungs$School" "size" "I") (by decide +kernel)
  have hl := lv_entry ([.ref q0]) (n := 1) (Nat.le_of_ble_eq_true rfl)
  rw [lg_entry_eq]
  generalize (lg_sl ([.ref q0]) ++ List.replicate (1 - (lg_sl ([.ref q0])).length) Slot.unset).toArray = ls at hl ⊢
  have hl : lv_has ls 1 [(0, .ref q0)] := hl
  refine lv_aload_n hx hb dX3_isNone_0 rfl (lv_at hl 0 rfl) ?_
  refine va_get (D := (dC, dI)) (ci := 2) (v := .int (nI n)) (C := RX3) (T := TX3) (N := 11) hx hb hts inX3 hown hK hP 0 rfl rfl 7 (by decide) lf34 (fun _ h9 => h9) rfl dX3_isNone_1 ?_
  refine w_ifneN (tgt := 11) hx hb (by omega) dX3_isNone_4 (by decide) (fun c_1 => ?_) (fun c_1 => ?_)
  · skip
    refine lv_iconst (v := nI 0) hx hb dX3_isNone_11 (by decide) ?_
    exact retRz hx hb hr hlocks rfl (by simp_all) dX3_isNone_12
  · skip
    refine lv_iconst (v := nI 1) hx hb dX3_isNone_7 (by decide) ?_
    refine lv_goto (tgt := 12) hx hb dX3_isNone_8 (by decide) ?_
    exact retRz hx hb hr hlocks rfl (by simp_all) dX3_isNone_12
set_option maxHeartbeats 4000000 in
set_option maxRecDepth 100000 in
theorem k_X3_has (l : Launch) (dC : Nat → ClassId) (dI : Nat → Nat → Nat) (cI cZ : ClassId) (q0 q1 q2 q3 q4 q5 q6 q7 : Nat) (fk fs fn fi fc fw ft : Nat → Int32) (n h : Nat) (th tt : Int32) (c : Int32) (hn6 : n ≤ 6) : Met l yX3_has wsX3_has ({ frames := 0, cells := 0, slots := 0, locals := 0 }) (va_Pc [.ref q0, .int (c)] (PR (dC, dI) cI cZ [(q0, .inr (2, [.ref q1, .ref q2, .ref q3, .ref q4, .ref q5, .ref q6, .ref q7, .int (nI n), .int (nI h), .int (th), .int (tt)])), (q1, .inl (cI, 6, .inl (fk))), (q2, .inl (cI, 6, .inl (fs))), (q3, .inl (cI, 6, .inl (fn))), (q4, .inl (cZ, 6, .inl (fi))), (q5, .inl (cI, 8, .inl (fc))), (q6, .inl (cI, 8, .inl (fw))), (q7, .inl (cI, 8, .inl (ft)))])) (QRi ((if (inR n c) then nI 1 else nI 0))) 0 0 noF := by
  refine Met.ofW (cc := cX3_has) (maxL := 2) (ret := (some .boolean)) (by decide) rfl ?_
  intro p e s m args below meth co s₁ B hml hv
  obtain ⟨rfl, hP, hK⟩ := hv
  have hx := B.exec
  have hb := B.bytes
  have hr := B.returns
  have hts := atoms_spec (ws := wsX3_has) B.pre
  have hown : s.vm.findClass RX3 = some m.cls := findClass_of_methodNamed B.named
  have hlocks := B.notSynchronized
  have inX3 : ∀ w ∈ u_ws RX3 TX3 11, w ∈ wsX3_has := by decide +kernel
  have lf34 := hts (.fieldLink RX3 34 "ThursdayRungs$School" "size" "I") (by decide +kernel)
  have hl := lv_entry ([.ref q0, .int (c)]) (n := 2) (Nat.le_of_ble_eq_true rfl)
  rw [lg_entry_eq]
  generalize (lg_sl ([.ref q0, .int (c)]) ++ List.replicate (2 - (lg_sl ([.ref q0, .int (c)])).length) Slot.unset).toArray = ls at hl ⊢
  have hl : lv_has ls 2 [(0, .ref q0), (1, .int (c))] := hl
  refine lv_iload_n hx hb dX3_has_0 rfl (lv_at hl 1 rfl) ?_
  refine lv_if_lt (tgt := 16) hx hb dX3_has_1 (by decide) (fun c_1 => ?_) (fun c_1 => ?_)
  · skip
    refine lv_iconst (v := nI 0) hx hb dX3_has_16 (by decide) ?_
    exact retRz hx hb hr hlocks rfl (by simp_all [has_iff (c := c) (show n < 2 ^ 31 by omega)]) dX3_has_17
  · skip
    refine lv_iload_n hx hb dX3_has_4 rfl (lv_at hl 1 rfl) ?_
    refine lv_aload_n hx hb dX3_has_5 rfl (lv_at hl 0 rfl) ?_
    refine va_get (D := (dC, dI)) (ci := 2) (v := .int (nI n)) (C := RX3) (T := TX3) (N := 11) hx hb hts inX3 hown hK hP 0 rfl rfl 7 (by decide) lf34 (fun _ h9 => h9) rfl dX3_has_6 ?_
    refine lv_icmp_ge (tgt := 16) hx hb dX3_has_9 (by decide) (fun c_2 => ?_) (fun c_2 => ?_)
    · skip
      refine lv_iconst (v := nI 0) hx hb dX3_has_16 (by decide) ?_
      exact retRz hx hb hr hlocks rfl (by simp_all [has_iff (c := c) (show n < 2 ^ 31 by omega)]) dX3_has_17
    · skip
      refine lv_iconst (v := nI 1) hx hb dX3_has_12 (by decide) ?_
      refine lv_goto (tgt := 17) hx hb dX3_has_13 (by decide) ?_
      exact retRz hx hb hr hlocks rfl (by simp_all [has_iff (c := c) (show n < 2 ^ 31 by omega)]) dX3_has_17
set_option maxHeartbeats 4000000 in
set_option maxRecDepth 100000 in
theorem k_X3_top (l : Launch) (dC : Nat → ClassId) (dI : Nat → Nat → Nat) (cI cZ : ClassId) (q0 q1 q2 q3 q4 q5 q6 q7 : Nat) (fk fs fn fi fc fw ft : Nat → Int32) (n h : Nat) (th tt : Int32) (hn1 : 1 ≤ n) (hn6 : n ≤ 6) : Met l yX3_top wsX3_top ({ frames := 0, cells := 0, slots := 0, locals := 0 }) (va_Pc [.ref q0] (PR (dC, dI) cI cZ [(q0, .inr (2, [.ref q1, .ref q2, .ref q3, .ref q4, .ref q5, .ref q6, .ref q7, .int (nI n), .int (nI h), .int (th), .int (tt)])), (q1, .inl (cI, 6, .inl (fk))), (q2, .inl (cI, 6, .inl (fs))), (q3, .inl (cI, 6, .inl (fn))), (q4, .inl (cZ, 6, .inl (fi))), (q5, .inl (cI, 8, .inl (fc))), (q6, .inl (cI, 8, .inl (fw))), (q7, .inl (cI, 8, .inl (ft)))])) (QRi (nI (n - 1))) 0 0 noF := by
  refine Met.ofW (cc := cX3_top) (maxL := 1) (ret := (some .int)) (by decide) rfl ?_
  intro p e s m args below meth co s₁ B hml hv
  obtain ⟨rfl, hP, hK⟩ := hv
  have hx := B.exec
  have hb := B.bytes
  have hr := B.returns
  have hts := atoms_spec (ws := wsX3_top) B.pre
  have hown : s.vm.findClass RX3 = some m.cls := findClass_of_methodNamed B.named
  have hlocks := B.notSynchronized
  have inX3 : ∀ w ∈ u_ws RX3 TX3 11, w ∈ wsX3_top := by decide +kernel
  have lf34 := hts (.fieldLink RX3 34 "ThursdayRungs$School" "size" "I") (by decide +kernel)
  have hl := lv_entry ([.ref q0]) (n := 1) (Nat.le_of_ble_eq_true rfl)
  rw [lg_entry_eq]
  generalize (lg_sl ([.ref q0]) ++ List.replicate (1 - (lg_sl ([.ref q0])).length) Slot.unset).toArray = ls at hl ⊢
  have hl : lv_has ls 1 [(0, .ref q0)] := hl
  refine lv_aload_n hx hb dX3_top_0 rfl (lv_at hl 0 rfl) ?_
  refine va_get (D := (dC, dI)) (ci := 2) (v := .int (nI n)) (C := RX3) (T := TX3) (N := 11) hx hb hts inX3 hown hK hP 0 rfl rfl 7 (by decide) lf34 (fun _ h9 => h9) rfl dX3_top_1 ?_
  refine lv_iconst (v := nI 1) hx hb dX3_top_4 (by decide) ?_
  refine w_subN hx hb (by omega) dX3_top_5 ?_
  exact retRi hx hb hr hlocks rfl dX3_top_6
set_option maxHeartbeats 4000000 in
set_option maxRecDepth 100000 in
theorem k_X3_isHeardFull (l : Launch) (dC : Nat → ClassId) (dI : Nat → Nat → Nat) (cI cZ : ClassId) (q0 q1 q2 q3 q4 q5 q6 q7 : Nat) (fk fs fn fi fc fw ft : Nat → Int32) (n h : Nat) (th tt : Int32) (hh8 : h ≤ 8) : Met l yX3_isHeardFull wsX3_isHeardFull ({ frames := 0, cells := 0, slots := 0, locals := 0 }) (va_Pc [.ref q0] (PR (dC, dI) cI cZ [(q0, .inr (2, [.ref q1, .ref q2, .ref q3, .ref q4, .ref q5, .ref q6, .ref q7, .int (nI n), .int (nI h), .int (th), .int (tt)])), (q1, .inl (cI, 6, .inl (fk))), (q2, .inl (cI, 6, .inl (fs))), (q3, .inl (cI, 6, .inl (fn))), (q4, .inl (cZ, 6, .inl (fi))), (q5, .inl (cI, 8, .inl (fc))), (q6, .inl (cI, 8, .inl (fw))), (q7, .inl (cI, 8, .inl (ft)))])) (QRi ((if (8 ≤ h) then nI 1 else nI 0))) 0 0 noF := by
  refine Met.ofW (cc := cX3_isHeardFull) (maxL := 1) (ret := (some .boolean)) (by decide) rfl ?_
  intro p e s m args below meth co s₁ B hml hv
  obtain ⟨rfl, hP, hK⟩ := hv
  have hx := B.exec
  have hb := B.bytes
  have hr := B.returns
  have hts := atoms_spec (ws := wsX3_isHeardFull) B.pre
  have hown : s.vm.findClass RX3 = some m.cls := findClass_of_methodNamed B.named
  have hlocks := B.notSynchronized
  have inX3 : ∀ w ∈ u_ws RX3 TX3 11, w ∈ wsX3_isHeardFull := by decide +kernel
  have lf38 := hts (.fieldLink RX3 38 "ThursdayRungs$School" "heard" "I") (by decide +kernel)
  have hl := lv_entry ([.ref q0]) (n := 1) (Nat.le_of_ble_eq_true rfl)
  rw [lg_entry_eq]
  generalize (lg_sl ([.ref q0]) ++ List.replicate (1 - (lg_sl ([.ref q0])).length) Slot.unset).toArray = ls at hl ⊢
  have hl : lv_has ls 1 [(0, .ref q0)] := hl
  refine lv_aload_n hx hb dX3_isHeardFull_0 rfl (lv_at hl 0 rfl) ?_
  refine va_get (D := (dC, dI)) (ci := 2) (v := .int (nI h)) (C := RX3) (T := TX3) (N := 11) hx hb hts inX3 hown hK hP 0 rfl rfl 8 (by decide) lf38 (fun _ h9 => h9) rfl dX3_isHeardFull_1 ?_
  refine lv_bipush (v := nI 8) hx hb dX3_isHeardFull_4 (by decide) ?_
  refine w_ci_lt (tgt := 13) hx hb (by omega) (by omega) dX3_isHeardFull_6 (by decide) (fun c_1 => ?_) (fun c_1 => ?_)
  · skip
    refine lv_iconst (v := nI 0) hx hb dX3_isHeardFull_13 (by decide) ?_
    exact retRz hx hb hr hlocks rfl (by simp_all; try omega) dX3_isHeardFull_14
  · skip
    refine lv_iconst (v := nI 1) hx hb dX3_isHeardFull_9 (by decide) ?_
    refine lv_goto (tgt := 14) hx hb dX3_isHeardFull_10 (by decide) ?_
    exact retRz hx hb hr hlocks rfl (by simp_all; try omega) dX3_isHeardFull_14
set_option maxHeartbeats 4000000 in
set_option maxRecDepth 100000 in
theorem k_X3_taughtNowBy (l : Launch) (dC : Nat → ClassId) (dI : Nat → Nat → Nat) (cI cZ : ClassId) (q0 q1 q2 q3 q4 q5 q6 q7 : Nat) (fk fs fn fi fc fw ft : Nat → Int32) (n h : Nat) (th tt : Int32) (c : Nat) (hc : c < 6) : Met l yX3_taughtNowBy wsX3_taughtNowBy ({ frames := 1, cells := 0, slots := 0, locals := 22 }) (va_Pc [.ref q0, .int (nI c)] (PR (dC, dI) cI cZ [(q0, .inr (2, [.ref q1, .ref q2, .ref q3, .ref q4, .ref q5, .ref q6, .ref q7, .int (nI n), .int (nI h), .int (th), .int (tt)])), (q1, .inl (cI, 6, .inl (fk))), (q2, .inl (cI, 6, .inl (fs))), (q3, .inl (cI, 6, .inl (fn))), (q4, .inl (cZ, 6, .inl (fi))), (q5, .inl (cI, 8, .inl (fc))), (q6, .inl (cI, 8, .inl (fw))), (q7, .inl (cI, 8, .inl (ft)))])) (QRi ((wt fk fs fn fi c))) 0 0 noF := by
  refine Met.ofW (cc := cX3_taughtNowBy) (maxL := 2) (ret := (some .int)) (by decide) rfl ?_
  intro p e s m args below meth co s₁ B hml hv
  obtain ⟨rfl, hP, hK⟩ := hv
  have hx := B.exec
  have hb := B.bytes
  have hr := B.returns
  have hts := atoms_spec (ws := wsX3_taughtNowBy) B.pre
  have hown : s.vm.findClass RX3 = some m.cls := findClass_of_methodNamed B.named
  have hlocks := B.notSynchronized
  have inX3 : ∀ w ∈ u_ws RX3 TX3 11, w ∈ wsX3_taughtNowBy := by decide +kernel
  have lf11 := hts (.fieldLink RX3 11 "ThursdayRungs$School" "kinds" "[I") (by decide +kernel)
  have lf15 := hts (.fieldLink RX3 15 "ThursdayRungs$School" "slips" "[I") (by decide +kernel)
  have lf18 := hts (.fieldLink RX3 18 "ThursdayRungs$School" "known" "[I") (by decide +kernel)
  have lf21 := hts (.fieldLink RX3 21 "ThursdayRungs$School" "ill" "[Z") (by decide +kernel)
  have hl := lv_entry ([.ref q0, .int (nI c)]) (n := 2) (Nat.le_of_ble_eq_true rfl)
  rw [lg_entry_eq]
  generalize (lg_sl ([.ref q0, .int (nI c)]) ++ List.replicate (2 - (lg_sl ([.ref q0, .int (nI c)])).length) Slot.unset).toArray = ls at hl ⊢
  have hl : lv_has ls 2 [(0, .ref q0), (1, .int (nI c))] := hl
  refine lv_aload_n hx hb dX3_taughtNowBy_0 rfl (lv_at hl 0 rfl) ?_
  refine va_get (D := (dC, dI)) (ci := 2) (v := .ref q3) (C := RX3) (T := TX3) (N := 11) hx hb hts inX3 hown hK hP 0 rfl rfl 2 (by decide) lf18 (fun _ h9 => h9) rfl dX3_taughtNowBy_1 ?_
  refine lv_iload_n hx hb dX3_taughtNowBy_4 rfl (lv_at hl 1 rfl) ?_
  refine w_iald (k := c) hx hb hK hP 3 0 rfl rfl (by omega) (by decide) dX3_taughtNowBy_5 ?_
  refine lv_iconst (v := -1) hx hb dX3_taughtNowBy_6 (by decide) ?_
  refine lv_icmp_eq (tgt := 19) hx hb dX3_taughtNowBy_7 (by decide) (fun c_1 => ?_) (fun c_1 => ?_)
  · skip
    refine lv_iconst (v := -1) hx hb dX3_taughtNowBy_19 (by decide) ?_
    refine lv_goto (tgt := 44) hx hb dX3_taughtNowBy_20 (by decide) ?_
    exact retRi hx hb hr hlocks (by simp_all [wt, nI]) dX3_taughtNowBy_44
  · skip
    refine lv_aload_n hx hb dX3_taughtNowBy_10 rfl (lv_at hl 0 rfl) ?_
    refine va_get (D := (dC, dI)) (ci := 2) (v := .ref q4) (C := RX3) (T := TX3) (N := 11) hx hb hts inX3 hown hK hP 0 rfl rfl 3 (by decide) lf21 (fun _ h9 => h9) rfl dX3_taughtNowBy_11 ?_
    refine lv_iload_n hx hb dX3_taughtNowBy_14 rfl (lv_at hl 1 rfl) ?_
    refine w_zald (k := c) hx hb hK hP 4 1 rfl rfl (by omega) (by decide) dX3_taughtNowBy_15 ?_
    refine lv_if_eq (tgt := 23) hx hb dX3_taughtNowBy_16 (by decide) (fun c_2 => ?_) (fun c_2 => ?_)
    · skip
      refine lv_aload_n hx hb dX3_taughtNowBy_23 rfl (lv_at hl 0 rfl) ?_
      refine va_get (D := (dC, dI)) (ci := 2) (v := .ref q1) (C := RX3) (T := TX3) (N := 11) hx hb hts inX3 hown hK hP 0 rfl rfl 0 (by decide) lf11 (fun _ h9 => h9) rfl dX3_taughtNowBy_24 ?_
      refine lv_iload_n hx hb dX3_taughtNowBy_27 rfl (lv_at hl 1 rfl) ?_
      refine w_iald (k := c) hx hb hK hP 1 0 rfl rfl (by omega) (by decide) dX3_taughtNowBy_28 ?_
      refine lv_aload_n hx hb dX3_taughtNowBy_29 rfl (lv_at hl 0 rfl) ?_
      refine va_get (D := (dC, dI)) (ci := 2) (v := .ref q2) (C := RX3) (T := TX3) (N := 11) hx hb hts inX3 hown hK hP 0 rfl rfl 1 (by decide) lf15 (fun _ h9 => h9) rfl dX3_taughtNowBy_30 ?_
      refine lv_iload_n hx hb dX3_taughtNowBy_33 rfl (lv_at hl 1 rfl) ?_
      refine w_iald (k := c) hx hb hK hP 2 0 rfl rfl (by omega) (by decide) dX3_taughtNowBy_34 ?_
      refine lv_aload_n hx hb dX3_taughtNowBy_35 rfl (lv_at hl 0 rfl) ?_
      refine va_get (D := (dC, dI)) (ci := 2) (v := .ref q3) (C := RX3) (T := TX3) (N := 11) hx hb hts inX3 hown hK hP 0 rfl rfl 2 (by decide) lf18 (fun _ h9 => h9) rfl dX3_taughtNowBy_36 ?_
      refine lv_iload_n hx hb dX3_taughtNowBy_39 rfl (lv_at hl 1 rfl) ?_
      refine w_iald (k := c) hx hb hK hP 3 0 rfl rfl (by omega) (by decide) dX3_taughtNowBy_40 ?_
      have hPc := hP.sub (ws' := []) [] rfl
      refine callRi (v := (tb (fk c) (fs c) (fn c))) (W.runS (As := [.int (fk c), .int (fs c), .int (fn c)]) (rest := []) ⟨hx, hb, hml, hown, hts⟩ (k_X1_passesOn l dC dI cI cZ (fk c) (fs c) (fn c)) (va_cwS 3 hts gX3_taughtNowBy_X1_passesOn rfl rfl rfl (by decide +kernel) ⟨Nat.le_of_ble_eq_true rfl, Nat.le_of_ble_eq_true rfl⟩) (preRS hK hPc) rfl rfl hl.1 rfl (lv_room (Nat.le_of_ble_eq_true rfl)) dX3_taughtNowBy_41 ⟨Nat.zero_le _, Nat.zero_le _⟩) ?_
      exact retRi hx hb hr hlocks (by simp_all [wt, nI]) dX3_taughtNowBy_44
    · skip
      refine lv_iconst (v := -1) hx hb dX3_taughtNowBy_19 (by decide) ?_
      refine lv_goto (tgt := 44) hx hb dX3_taughtNowBy_20 (by decide) ?_
      exact retRi hx hb hr hlocks (by simp_all [wt, nI]) dX3_taughtNowBy_44
set_option maxHeartbeats 4000000 in
set_option maxRecDepth 100000 in
theorem k_X3_atTop (l : Launch) (dC : Nat → ClassId) (dI : Nat → Nat → Nat) (cI cZ : ClassId) (q0 q1 q2 q3 q4 q5 q6 q7 : Nat) (fk fs fn fi fc fw ft : Nat → Int32) (n h : Nat) (th tt : Int32) (c : Nat) (r : Int32) (cu : Int32) (hn1 : 1 ≤ n) (hn6 : n ≤ 6) (hc : c < n) : Met l yX3_atTop wsX3_atTop ({ frames := 1, cells := 0, slots := 0, locals := 22 }) (va_Pc [.ref q0, .int (nI c), .int (r), .int (cu)] (PR (dC, dI) cI cZ [(q0, .inr (2, [.ref q1, .ref q2, .ref q3, .ref q4, .ref q5, .ref q6, .ref q7, .int (nI n), .int (nI h), .int (th), .int (tt)])), (q1, .inl (cI, 6, .inl (fk))), (q2, .inl (cI, 6, .inl (fs))), (q3, .inl (cI, 6, .inl (fn))), (q4, .inl (cZ, 6, .inl (fi))), (q5, .inl (cI, 8, .inl (fc))), (q6, .inl (cI, 8, .inl (fw))), (q7, .inl (cI, 8, .inl (ft)))])) (QRi ((atF fk (cuF fs cu) c (n - 1 - c) r))) 0 0 noF := by
  refine Met.ofW (cc := cX3_atTop) (maxL := 6) (ret := (some .int)) (by decide) rfl ?_
  intro p e s m args below meth co s₁ B hml hv
  obtain ⟨rfl, hP, hK⟩ := hv
  have hx := B.exec
  have hb := B.bytes
  have hr := B.returns
  have hts := atoms_spec (ws := wsX3_atTop) B.pre
  have hown : s.vm.findClass RX3 = some m.cls := findClass_of_methodNamed B.named
  have hlocks := B.notSynchronized
  have inX3 : ∀ w ∈ u_ws RX3 TX3 11, w ∈ wsX3_atTop := by decide +kernel
  have lf11 := hts (.fieldLink RX3 11 "ThursdayRungs$School" "kinds" "[I") (by decide +kernel)
  have lf15 := hts (.fieldLink RX3 15 "ThursdayRungs$School" "slips" "[I") (by decide +kernel)
  have hl := lv_entry ([.ref q0, .int (nI c), .int (r), .int (cu)]) (n := 6) (Nat.le_of_ble_eq_true rfl)
  rw [lg_entry_eq]
  generalize (lg_sl ([.ref q0, .int (nI c), .int (r), .int (cu)]) ++ List.replicate (6 - (lg_sl ([.ref q0, .int (nI c), .int (r), .int (cu)])).length) Slot.unset).toArray = ls at hl ⊢
  have hl : lv_has ls 6 [(0, .ref q0), (1, .int (nI c)), (2, .int (r)), (3, .int (cu))] := hl
  refine lv_iload_n hx hb dX3_atTop_0 rfl (lv_at hl 2 rfl) ?_
  refine lv_istore (lv' := [(4, .int (r)), (0, .ref q0), (1, .int (nI c)), (2, .int (r)), (3, .int (cu))]) hx hb dX3_atTop_1 hl (by decide) rfl (fun ls hl => ?_)
  refine lv_iload_n hx hb dX3_atTop_3 rfl (lv_at hl 2 rfl) ?_
  refine lv_istore (lv' := [(5, .int (nI c)), (4, .int (r)), (0, .ref q0), (1, .int (nI c)), (2, .int (r)), (3, .int (cu))]) hx hb dX3_atTop_4 hl (by decide) rfl (fun ls hl => ?_)
  have lp6 : ∀ (w : Nat) (k : Nat) (v : Int32), n - k < w → c ≤ k ∧ k ≤ n - 1 → ((atF fk (cuF fs cu) c (n - 1 - c) r)) = atF fk (cuF fs cu) k (n - 1 - k) v → ∀ (ls : Array Slot), lv_has ls 6 [(0, .ref q0), (1, .int (nI c)), (2, .int (r)), (3, .int (cu)), (4, .int (v)), (5, .int (nI k))] → W p l e (headSpec wsX3_atTop ({ frames := 1, cells := 0, slots := 0, locals := 22 })).room s m ([.ref q0, .int (nI c), .int (r), .int (cu)] : List Value).toArray below meth co s.heap [] 0 0 (MQ below (QRi ((atF fk (cuF fs cu) c (n - 1 - c) r))) ([.ref q0, .int (nI c), .int (r), .int (cu)] : List Value).toArray s 0 0 noF) (F0 m 6 ls []) := by
    intro w
    induction w with
    | zero => intro k v h0; exact absurd h0 (Nat.not_lt_zero _)
    | succ w ih6 =>
      intro k v hm_1 hk hL ls hl
      refine lv_iload hx hb dX3_atTop_6 (lv_at hl 5 rfl) ?_
      refine lv_aload_n hx hb dX3_atTop_8 rfl (lv_at hl 0 rfl) ?_
      have hPc := hP.sub (ws' := [(q0, .inr (2, [.ref q1, .ref q2, .ref q3, .ref q4, .ref q5, .ref q6, .ref q7, .int (nI n), .int (nI h), .int (th), .int (tt)])), (q1, .inl (cI, 6, .inl (fk))), (q2, .inl (cI, 6, .inl (fs))), (q3, .inl (cI, 6, .inl (fn))), (q4, .inl (cZ, 6, .inl (fi))), (q5, .inl (cI, 8, .inl (fc))), (q6, .inl (cI, 8, .inl (fw))), (q7, .inl (cI, 8, .inl (ft)))]) [0, 1, 2, 3, 4, 5, 6, 7] rfl
      refine callRi (v := nI (n - 1)) (W.runV (As := []) (rest := [.int (nI k)]) ⟨hx, hb, hml, hown, hts⟩ (k_X3_top l dC dI cI cZ q0 q1 q2 q3 q4 q5 q6 q7 (fk) (fs) (fn) (fi) (fc) (fw) (ft) (n) (h) (th) (tt) (by first | assumption | omega | (simp; omega)) (by first | assumption | omega | (simp; omega))) (cwV 0 hts gX3_atTop_X3_top rfl rfl rfl (by decide +kernel) ⟨Nat.le_of_ble_eq_true rfl, Nat.le_of_ble_eq_true rfl⟩) (preRV (q := (RX3, TX3, 11)) (ci := 2) hK hPc rfl rfl) rfl rfl hl.1 rfl (lv_room (Nat.le_of_ble_eq_true rfl)) dX3_atTop_9 ⟨Nat.zero_le _, Nat.zero_le _⟩) ?_
      refine w_ci_ge (tgt := 52) hx hb (by omega) (by omega) dX3_atTop_12 (by decide) (fun c_2 => ?_) (fun c_2 => ?_)
      · skip
        refine lv_iload hx hb dX3_atTop_52 (lv_at hl 4 rfl) ?_
        exact retRi hx hb hr hlocks (by rw [hL, show n - 1 - k = 0 by omega]; rfl) dX3_atTop_54
      · skip
        refine lv_aload_n hx hb dX3_atTop_15 rfl (lv_at hl 0 rfl) ?_
        refine va_get (D := (dC, dI)) (ci := 2) (v := .ref q1) (C := RX3) (T := TX3) (N := 11) hx hb hts inX3 hown hK hP 0 rfl rfl 0 (by decide) lf11 (fun _ h9 => h9) rfl dX3_atTop_16 ?_
        refine lv_iload hx hb dX3_atTop_19 (lv_at hl 5 rfl) ?_
        refine w_iald (k := k) hx hb hK hP 1 0 rfl rfl (by omega) (by decide) dX3_atTop_21 ?_
        refine lv_iload hx hb dX3_atTop_22 (lv_at hl 5 rfl) ?_
        refine lv_iload_n hx hb dX3_atTop_24 rfl (lv_at hl 3 rfl) ?_
        refine lv_icmp_ne (tgt := 32) hx hb dX3_atTop_25 (by decide) (fun c_3 => ?_) (fun c_3 => ?_)
        · skip
          refine lv_aload_n hx hb dX3_atTop_32 rfl (lv_at hl 0 rfl) ?_
          refine va_get (D := (dC, dI)) (ci := 2) (v := .ref q2) (C := RX3) (T := TX3) (N := 11) hx hb hts inX3 hown hK hP 0 rfl rfl 1 (by decide) lf15 (fun _ h9 => h9) rfl dX3_atTop_33 ?_
          refine lv_iload hx hb dX3_atTop_36 (lv_at hl 5 rfl) ?_
          refine w_iald (k := k) hx hb hK hP 2 0 rfl rfl (by omega) (by decide) dX3_atTop_38 ?_
          refine lv_iload hx hb dX3_atTop_39 (lv_at hl 4 rfl) ?_
          have hPc := hP.sub (ws' := []) [] rfl
          refine callRi (v := (tb (fk k) (fs k) v)) (W.runS (As := [.int (fk k), .int (fs k), .int (v)]) (rest := []) ⟨hx, hb, hml, hown, hts⟩ (k_X1_passesOn l dC dI cI cZ (fk k) (fs k) (v)) (va_cwS 3 hts gX3_atTop_X1_passesOn rfl rfl rfl (by decide +kernel) ⟨Nat.le_of_ble_eq_true rfl, Nat.le_of_ble_eq_true rfl⟩) (preRS hK hPc) rfl rfl hl.1 rfl (lv_room (Nat.le_of_ble_eq_true rfl)) dX3_atTop_41 ⟨Nat.zero_le _, Nat.zero_le _⟩) ?_
          refine lv_istore (lv' := [(4, .int ((tb (fk k) (fs k) v))), (0, .ref q0), (1, .int (nI c)), (2, .int (r)), (3, .int (cu)), (5, .int (nI k))]) hx hb dX3_atTop_44 hl (by decide) rfl (fun ls hl => ?_)
          refine lv_iinc (v := nI (k + 1)) (lv' := [(5, .int (nI (k + 1))), (4, .int ((tb (fk k) (fs k) v))), (0, .ref q0), (1, .int (nI c)), (2, .int (r)), (3, .int (cu))]) hx hb dX3_atTop_46 hl (k := 5) rfl w_inc1 (by decide) rfl (fun ls hl => ?_)
          refine lv_goto (tgt := 6) hx hb dX3_atTop_49 (by decide) ?_
          have he_4 : (nI (k + 1) : Int32) = nI ((k + 1)) := by first | rfl | exact (if_pos c_3).symm | exact (if_neg c_3).symm | (simp [hn1, hn6, hc, hk, hL, c_2, c_3]; done) | omega
          have hl := lv_cong hl (show ([(5, .int (nI (k + 1))), (4, .int ((tb (fk k) (fs k) v))), (0, .ref q0), (1, .int (nI c)), (2, .int (r)), (3, .int (cu))] : List (Nat × Value)) = [(5, .int (nI ((k + 1)))), (4, .int ((tb (fk k) (fs k) v))), (0, .ref q0), (1, .int (nI c)), (2, .int (r)), (3, .int (cu))] by rw [← he_4])
          exact ih6 (k + 1) ((tb (fk k) (fs k) v)) (by omega) (by first | assumption | omega | (first | rfl | exact (if_pos c_3).symm | exact (if_neg c_3).symm | (simp [hn1, hn6, hc, hk, hL, c_2, c_3]; done) | omega)) (by rw [hL, show n - 1 - k = (n - 1 - (k + 1)) + 1 by omega, atF]; simp_all [cuF]) ls (lv_sub hl [2, 3, 4, 5, 1, 0] rfl)
        · skip
          refine lv_iconst (v := nI 0) hx hb dX3_atTop_28 (by decide) ?_
          refine lv_goto (tgt := 39) hx hb dX3_atTop_29 (by decide) ?_
          refine lv_iload hx hb dX3_atTop_39 (lv_at hl 4 rfl) ?_
          have hPc := hP.sub (ws' := []) [] rfl
          refine callRi (v := (tb (fk k) (nI 0) v)) (W.runS (As := [.int (fk k), .int (nI 0), .int (v)]) (rest := []) ⟨hx, hb, hml, hown, hts⟩ (k_X1_passesOn l dC dI cI cZ (fk k) (nI 0) (v)) (va_cwS 3 hts gX3_atTop_X1_passesOn rfl rfl rfl (by decide +kernel) ⟨Nat.le_of_ble_eq_true rfl, Nat.le_of_ble_eq_true rfl⟩) (preRS hK hPc) rfl rfl hl.1 rfl (lv_room (Nat.le_of_ble_eq_true rfl)) dX3_atTop_41 ⟨Nat.zero_le _, Nat.zero_le _⟩) ?_
          refine lv_istore (lv' := [(4, .int ((tb (fk k) (nI 0) v))), (0, .ref q0), (1, .int (nI c)), (2, .int (r)), (3, .int (cu)), (5, .int (nI k))]) hx hb dX3_atTop_44 hl (by decide) rfl (fun ls hl => ?_)
          refine lv_iinc (v := nI (k + 1)) (lv' := [(5, .int (nI (k + 1))), (4, .int ((tb (fk k) (nI 0) v))), (0, .ref q0), (1, .int (nI c)), (2, .int (r)), (3, .int (cu))]) hx hb dX3_atTop_46 hl (k := 5) rfl w_inc1 (by decide) rfl (fun ls hl => ?_)
          refine lv_goto (tgt := 6) hx hb dX3_atTop_49 (by decide) ?_
          have he_5 : (nI (k + 1) : Int32) = nI ((k + 1)) := by first | rfl | exact (if_pos c_3).symm | exact (if_neg c_3).symm | (simp [hn1, hn6, hc, hk, hL, c_2, c_3]; done) | omega
          have hl := lv_cong hl (show ([(5, .int (nI (k + 1))), (4, .int ((tb (fk k) (nI 0) v))), (0, .ref q0), (1, .int (nI c)), (2, .int (r)), (3, .int (cu))] : List (Nat × Value)) = [(5, .int (nI ((k + 1)))), (4, .int ((tb (fk k) (nI 0) v))), (0, .ref q0), (1, .int (nI c)), (2, .int (r)), (3, .int (cu))] by rw [← he_5])
          exact ih6 (k + 1) ((tb (fk k) (nI 0) v)) (by omega) (by first | assumption | omega | (first | rfl | exact (if_pos c_3).symm | exact (if_neg c_3).symm | (simp [hn1, hn6, hc, hk, hL, c_2, c_3]; done) | omega)) (by rw [hL, show n - 1 - k = (n - 1 - (k + 1)) + 1 by omega, atF]; simp_all [cuF]) ls (lv_sub hl [2, 3, 4, 5, 1, 0] rfl)
  exact lp6 (n - c + 1) (c) (r) (Nat.lt_succ_self _) (by first | assumption | omega | (first | rfl | exact (if_pos hc).symm | exact (if_neg hc).symm | (simp [hn1, hn6, hc]; done) | omega)) (by rfl) ls (lv_sub hl [2, 3, 4, 5, 1, 0] rfl)
set_option maxHeartbeats 4000000 in
set_option maxRecDepth 100000 in
theorem k_X3_sourcesOf (l : Launch) (dC : Nat → ClassId) (dI : Nat → Nat → Nat) (cI cZ : ClassId) (q0 q1 q2 q3 q4 q5 q6 q7 : Nat) (fk fs fn fi fc fw ft : Nat → Int32) (n h : Nat) (th tt : Int32) (c : Nat) (x : Int32) (hn1 : 1 ≤ n) (hn6 : n ≤ 6) (hc : c < n) : Met l yX3_sourcesOf wsX3_sourcesOf ({ frames := 2, cells := 0, slots := 0, locals := 47 }) (va_Pc [.ref q0, .int (nI c), .int (x)] (PR (dC, dI) cI cZ [(q0, .inr (2, [.ref q1, .ref q2, .ref q3, .ref q4, .ref q5, .ref q6, .ref q7, .int (nI n), .int (nI h), .int (th), .int (tt)])), (q1, .inl (cI, 6, .inl (fk))), (q2, .inl (cI, 6, .inl (fs))), (q3, .inl (cI, 6, .inl (fn))), (q4, .inl (cZ, 6, .inl (fi))), (q5, .inl (cI, 8, .inl (fc))), (q6, .inl (cI, 8, .inl (fw))), (q7, .inl (cI, 8, .inl (ft)))])) (QRi ((srcF (fun r => atF fk fs c (n - 1 - c) (nI r)) x 12))) 0 0 noF := by
  refine Met.ofW (cc := cX3_sourcesOf) (maxL := 5) (ret := (some .int)) (by decide) rfl ?_
  intro p e s m args below meth co s₁ B hml hv
  obtain ⟨rfl, hP, hK⟩ := hv
  have hx := B.exec
  have hb := B.bytes
  have hr := B.returns
  have hts := atoms_spec (ws := wsX3_sourcesOf) B.pre
  have hown : s.vm.findClass RX3 = some m.cls := findClass_of_methodNamed B.named
  have hlocks := B.notSynchronized
  have hl := lv_entry ([.ref q0, .int (nI c), .int (x)]) (n := 5) (Nat.le_of_ble_eq_true rfl)
  rw [lg_entry_eq]
  generalize (lg_sl ([.ref q0, .int (nI c), .int (x)]) ++ List.replicate (5 - (lg_sl ([.ref q0, .int (nI c), .int (x)])).length) Slot.unset).toArray = ls at hl ⊢
  have hl : lv_has ls 5 [(0, .ref q0), (1, .int (nI c)), (2, .int (x))] := hl
  refine lv_iconst (v := nI 0) hx hb dX3_sourcesOf_0 (by decide) ?_
  refine lv_istore_n (lv' := [(3, .int (nI 0)), (0, .ref q0), (1, .int (nI c)), (2, .int (x))]) hx hb dX3_sourcesOf_1 rfl hl (by decide) rfl (fun ls hl => ?_)
  refine lv_iconst (v := nI 0) hx hb dX3_sourcesOf_2 (by decide) ?_
  refine lv_istore (lv' := [(4, .int (nI 0)), (3, .int (nI 0)), (0, .ref q0), (1, .int (nI c)), (2, .int (x))]) hx hb dX3_sourcesOf_3 hl (by decide) rfl (fun ls hl => ?_)
  have lp5 : ∀ (w : Nat) (k : Nat), 12 - k < w → k ≤ 12 → ∀ (ls : Array Slot), lv_has ls 5 [(0, .ref q0), (1, .int (nI c)), (2, .int (x)), (3, .int ((srcF (fun r => atF fk fs c (n - 1 - c) (nI r)) x k))), (4, .int (nI k))] → W p l e (headSpec wsX3_sourcesOf ({ frames := 2, cells := 0, slots := 0, locals := 47 })).room s m ([.ref q0, .int (nI c), .int (x)] : List Value).toArray below meth co s.heap [] 0 0 (MQ below (QRi ((srcF (fun r => atF fk fs c (n - 1 - c) (nI r)) x 12))) ([.ref q0, .int (nI c), .int (x)] : List Value).toArray s 0 0 noF) (F0 m 5 ls []) := by
    intro w
    induction w with
    | zero => intro k h0; exact absurd h0 (Nat.not_lt_zero _)
    | succ w ih5 =>
      intro k hm_1 hk ls hl
      refine lv_iload hx hb dX3_sourcesOf_5 (lv_at hl 4 rfl) ?_
      refine lv_bipush (v := nI 12) hx hb dX3_sourcesOf_7 (by decide) ?_
      refine w_ci_ge (tgt := 37) hx hb (by omega) (by omega) dX3_sourcesOf_9 (by decide) (fun c_2 => ?_) (fun c_2 => ?_)
      · skip
        refine lv_iload_n hx hb dX3_sourcesOf_37 rfl (lv_at hl 3 rfl) ?_
        exact retRi hx hb hr hlocks (by first | rfl | exact (if_pos @L).symm | exact (if_neg @L).symm | (simp [hn1, hn6, hc, hk, c_2]; done) | omega) dX3_sourcesOf_38
      · skip
        refine lv_aload_n hx hb dX3_sourcesOf_12 rfl (lv_at hl 0 rfl) ?_
        refine lv_iload_n hx hb dX3_sourcesOf_13 rfl (lv_at hl 1 rfl) ?_
        refine lv_iload hx hb dX3_sourcesOf_14 (lv_at hl 4 rfl) ?_
        refine lv_iconst (v := -1) hx hb dX3_sourcesOf_16 (by decide) ?_
        have hPc := hP.sub (ws' := [(q0, .inr (2, [.ref q1, .ref q2, .ref q3, .ref q4, .ref q5, .ref q6, .ref q7, .int (nI n), .int (nI h), .int (th), .int (tt)])), (q1, .inl (cI, 6, .inl (fk))), (q2, .inl (cI, 6, .inl (fs))), (q3, .inl (cI, 6, .inl (fn))), (q4, .inl (cZ, 6, .inl (fi))), (q5, .inl (cI, 8, .inl (fc))), (q6, .inl (cI, 8, .inl (fw))), (q7, .inl (cI, 8, .inl (ft)))]) [0, 1, 2, 3, 4, 5, 6, 7] rfl
        refine callRi (v := (atF fk (cuF fs (-1)) c (n - 1 - c) (nI k))) (W.runV (As := [.int (nI c), .int (nI k), .int ((-1))]) (rest := []) ⟨hx, hb, hml, hown, hts⟩ (k_X3_atTop l dC dI cI cZ q0 q1 q2 q3 q4 q5 q6 q7 (fk) (fs) (fn) (fi) (fc) (fw) (ft) (n) (h) (th) (tt) (c) (nI k) ((-1)) (by first | assumption | omega | (simp; omega)) (by first | assumption | omega | (simp; omega)) (by first | assumption | omega | (simp; omega))) (cwV 3 hts gX3_sourcesOf_X3_atTop rfl rfl rfl (by decide +kernel) ⟨Nat.le_of_ble_eq_true rfl, Nat.le_of_ble_eq_true rfl⟩) (preRV (q := (RX3, TX3, 11)) (ci := 2) hK hPc rfl rfl) rfl rfl hl.1 rfl (lv_room (Nat.le_of_ble_eq_true rfl)) dX3_sourcesOf_17 ⟨Nat.zero_le _, Nat.zero_le _⟩) ?_
        refine lv_iload_n hx hb dX3_sourcesOf_20 rfl (lv_at hl 2 rfl) ?_
        refine lv_icmp_ne (tgt := 31) hx hb dX3_sourcesOf_21 (by decide) (fun c_3 => ?_) (fun c_3 => ?_)
        · skip
          refine lv_iinc (v := nI (k + 1)) (lv' := [(4, .int (nI (k + 1))), (0, .ref q0), (1, .int (nI c)), (2, .int (x)), (3, .int ((srcF (fun r => atF fk fs c (n - 1 - c) (nI r)) x k)))]) hx hb dX3_sourcesOf_31 hl (k := 4) rfl w_inc1 (by decide) rfl (fun ls hl => ?_)
          refine lv_goto (tgt := 5) hx hb dX3_sourcesOf_34 (by decide) ?_
          have he_4 : ((srcF (fun r => atF fk fs c (n - 1 - c) (nI r)) x k) : Int32) = (srcF (fun r => atF fk fs c (n - 1 - c) (nI r)) x (k + 1)) := by simp_all [srcF]
          have he_5 : (nI (k + 1) : Int32) = nI ((k + 1)) := by first | rfl | exact (if_pos c_3).symm | exact (if_neg c_3).symm | (simp [hn1, hn6, hc, hk, c_2, c_3]; done) | omega
          have hl := lv_cong hl (show ([(4, .int (nI (k + 1))), (0, .ref q0), (1, .int (nI c)), (2, .int (x)), (3, .int ((srcF (fun r => atF fk fs c (n - 1 - c) (nI r)) x k)))] : List (Nat × Value)) = [(4, .int (nI ((k + 1)))), (0, .ref q0), (1, .int (nI c)), (2, .int (x)), (3, .int ((srcF (fun r => atF fk fs c (n - 1 - c) (nI r)) x (k + 1))))] by rw [← he_4, ← he_5])
          exact ih5 (k + 1) (by omega) (by first | assumption | omega | (first | rfl | exact (if_pos c_3).symm | exact (if_neg c_3).symm | (simp [hn1, hn6, hc, hk, c_2, c_3]; done) | omega)) ls (lv_sub hl [1, 2, 3, 4, 0] rfl)
        · skip
          refine lv_iload_n hx hb dX3_sourcesOf_24 rfl (lv_at hl 3 rfl) ?_
          refine lv_iconst (v := nI 1) hx hb dX3_sourcesOf_25 (by decide) ?_
          refine lv_iload hx hb dX3_sourcesOf_26 (lv_at hl 4 rfl) ?_
          refine lv_ishl hx hb dX3_sourcesOf_28 ?_
          refine lv_ior hx hb dX3_sourcesOf_29 ?_
          refine lv_istore_n (lv' := [(3, .int (((srcF (fun r => atF fk fs c (n - 1 - c) (nI r)) x k)) ||| ((nI 1) <<< ((nI k) &&& 31)))), (0, .ref q0), (1, .int (nI c)), (2, .int (x)), (4, .int (nI k))]) hx hb dX3_sourcesOf_30 rfl hl (by decide) rfl (fun ls hl => ?_)
          refine lv_iinc (v := nI (k + 1)) (lv' := [(4, .int (nI (k + 1))), (3, .int (((srcF (fun r => atF fk fs c (n - 1 - c) (nI r)) x k)) ||| ((nI 1) <<< ((nI k) &&& 31)))), (0, .ref q0), (1, .int (nI c)), (2, .int (x))]) hx hb dX3_sourcesOf_31 hl (k := 4) rfl w_inc1 (by decide) rfl (fun ls hl => ?_)
          refine lv_goto (tgt := 5) hx hb dX3_sourcesOf_34 (by decide) ?_
          have he_6 : (((srcF (fun r => atF fk fs c (n - 1 - c) (nI r)) x k)) ||| ((nI 1) <<< ((nI k) &&& 31)) : Int32) = (srcF (fun r => atF fk fs c (n - 1 - c) (nI r)) x (k + 1)) := by simp_all [srcF]
          have he_7 : (nI (k + 1) : Int32) = nI ((k + 1)) := by first | rfl | exact (if_pos c_3).symm | exact (if_neg c_3).symm | (simp [hn1, hn6, hc, hk, c_2, c_3]; done) | omega
          have hl := lv_cong hl (show ([(4, .int (nI (k + 1))), (3, .int (((srcF (fun r => atF fk fs c (n - 1 - c) (nI r)) x k)) ||| ((nI 1) <<< ((nI k) &&& 31)))), (0, .ref q0), (1, .int (nI c)), (2, .int (x))] : List (Nat × Value)) = [(4, .int (nI ((k + 1)))), (3, .int ((srcF (fun r => atF fk fs c (n - 1 - c) (nI r)) x (k + 1)))), (0, .ref q0), (1, .int (nI c)), (2, .int (x))] by rw [← he_6, ← he_7])
          exact ih5 (k + 1) (by omega) (by first | assumption | omega | (first | rfl | exact (if_pos c_3).symm | exact (if_neg c_3).symm | (simp [hn1, hn6, hc, hk, c_2, c_3]; done) | omega)) ls (lv_sub hl [2, 3, 4, 1, 0] rfl)
  have he_8 : (nI 0 : Int32) = (srcF (fun r => atF fk fs c (n - 1 - c) (nI r)) x 0) := by rfl
  have hl := lv_cong hl (show ([(4, .int (nI 0)), (3, .int (nI 0)), (0, .ref q0), (1, .int (nI c)), (2, .int (x))] : List (Nat × Value)) = [(4, .int (nI 0)), (3, .int ((srcF (fun r => atF fk fs c (n - 1 - c) (nI r)) x 0))), (0, .ref q0), (1, .int (nI c)), (2, .int (x))] by rw [← he_8])
  exact lp5 (12 - 0 + 1) (0) (Nat.lt_succ_self _) (by first | assumption | omega | (first | rfl | exact (if_pos hc).symm | exact (if_neg hc).symm | (simp [hn1, hn6, hc]; done) | omega)) ls (lv_sub hl [2, 3, 4, 1, 0] rfl)
