set_option maxHeartbeats 4000000 in
set_option maxRecDepth 100000 in
/-- Kind.isA -/
theorem k_X1_isA (l : Launch) (dC : Nat → ClassId) (dI : Nat → Nat → Nat) (cI cZ : ClassId) (k : Int32) (o : Int32) : Met l yX1_isA wsX1_isA ({ frames := 0, cells := 0, slots := 0, locals := 0 }) (va_Pc [.int (k), .int (o)] (PR (dC, dI) cI cZ [])) (QRi ((if (o = nI 0 ∨ k = o ∨ (k = nI 4 ∧ o = nI 1)) then nI 1 else nI 0))) 0 0 noF := by
  refine Met.ofW (cc := cX1_isA) (maxL := 2) (ret := (some .boolean)) (by decide) rfl ?_
  intro p e s m args below meth co s₁ B hml hv
  obtain ⟨rfl, hP, hK⟩ := hv
  have hx := B.exec
  have hb := B.bytes
  have hr := B.returns
  have hts := atoms_spec (ws := wsX1_isA) B.pre
  have hown : s.vm.findClass RX1 = some m.cls := findClass_of_methodNamed B.named
  have hlocks := B.notSynchronized
  have hl := lv_entry ([.int (k), .int (o)]) (n := 2) (Nat.le_of_ble_eq_true rfl)
  rw [lg_entry_eq]
  generalize (lg_sl ([.int (k), .int (o)]) ++ List.replicate (2 - (lg_sl ([.int (k), .int (o)])).length) Slot.unset).toArray = ls at hl ⊢
  have hl : lv_has ls 2 [(0, .int (k)), (1, .int (o))] := hl
  refine lv_iload_n hx hb dX1_isA_0 rfl (lv_at hl 1 rfl) ?_
  refine lv_if_eq (tgt := 19) hx hb dX1_isA_1 (by decide) (fun c_1 => ?_) (fun c_1 => ?_)
  · skip
    refine lv_iconst (v := nI 1) hx hb dX1_isA_19 (by decide) ?_
    refine lv_goto (tgt := 24) hx hb dX1_isA_20 (by decide) ?_
    exact retRz hx hb hr hlocks rfl (by simp_all [nI]) dX1_isA_24
  · skip
    refine lv_iload_n hx hb dX1_isA_4 rfl (lv_at hl 0 rfl) ?_
    refine lv_iload_n hx hb dX1_isA_5 rfl (lv_at hl 1 rfl) ?_
    refine lv_icmp_eq (tgt := 19) hx hb dX1_isA_6 (by decide) (fun c_2 => ?_) (fun c_2 => ?_)
    · skip
      refine lv_iconst (v := nI 1) hx hb dX1_isA_19 (by decide) ?_
      refine lv_goto (tgt := 24) hx hb dX1_isA_20 (by decide) ?_
      exact retRz hx hb hr hlocks rfl (by simp_all [nI]) dX1_isA_24
    · skip
      refine lv_iload_n hx hb dX1_isA_9 rfl (lv_at hl 0 rfl) ?_
      refine lv_iconst (v := nI 4) hx hb dX1_isA_10 (by decide) ?_
      refine lv_icmp_ne (tgt := 23) hx hb dX1_isA_11 (by decide) (fun c_3 => ?_) (fun c_3 => ?_)
      · skip
        refine lv_iconst (v := nI 0) hx hb dX1_isA_23 (by decide) ?_
        exact retRz hx hb hr hlocks rfl (by simp_all [nI]) dX1_isA_24
      · skip
        refine lv_iload_n hx hb dX1_isA_14 rfl (lv_at hl 1 rfl) ?_
        refine lv_iconst (v := nI 1) hx hb dX1_isA_15 (by decide) ?_
        refine lv_icmp_ne (tgt := 23) hx hb dX1_isA_16 (by decide) (fun c_4 => ?_) (fun c_4 => ?_)
        · skip
          refine lv_iconst (v := nI 0) hx hb dX1_isA_23 (by decide) ?_
          exact retRz hx hb hr hlocks rfl (by simp_all [nI]) dX1_isA_24
        · skip
          refine lv_iconst (v := nI 1) hx hb dX1_isA_19 (by decide) ?_
          refine lv_goto (tgt := 24) hx hb dX1_isA_20 (by decide) ?_
          exact retRz hx hb hr hlocks rfl (by simp_all [nI]) dX1_isA_24
set_option maxHeartbeats 4000000 in
set_option maxRecDepth 100000 in
/-- Kind.passesOn -/
theorem k_X1_passesOn (l : Launch) (dC : Nat → ClassId) (dI : Nat → Nat → Nat) (cI cZ : ClassId) (k : Int32) (sl : Int32) (r : Int32) : Met l yX1_passesOn wsX1_passesOn ({ frames := 0, cells := 0, slots := 0, locals := 0 }) (va_Pc [.int (k), .int (sl), .int (r)] (PR (dC, dI) cI cZ [])) (QRi ((tb k sl r))) 0 0 noF := by
  refine Met.ofW (cc := cX1_passesOn) (maxL := 3) (ret := (some .int)) (by decide) rfl ?_
  intro p e s m args below meth co s₁ B hml hv
  obtain ⟨rfl, hP, hK⟩ := hv
  have hx := B.exec
  have hb := B.bytes
  have hr := B.returns
  have hts := atoms_spec (ws := wsX1_passesOn) B.pre
  have hown : s.vm.findClass RX1 = some m.cls := findClass_of_methodNamed B.named
  have hlocks := B.notSynchronized
  have hl := lv_entry ([.int (k), .int (sl), .int (r)]) (n := 3) (Nat.le_of_ble_eq_true rfl)
  rw [lg_entry_eq]
  generalize (lg_sl ([.int (k), .int (sl), .int (r)]) ++ List.replicate (3 - (lg_sl ([.int (k), .int (sl), .int (r)])).length) Slot.unset).toArray = ls at hl ⊢
  have hl : lv_has ls 3 [(0, .int (k)), (1, .int (sl)), (2, .int (r))] := hl
  refine lv_iload_n hx hb dX1_passesOn_0 rfl (lv_at hl 0 rfl) ?_
  by_cases w_1 : k = nI 1
  · skip
    refine lv_tableIn (tgt := 32) hx hb dX1_passesOn_1 (by rw [w_1]; decide) (by rw [w_1]; decide) (by rw [w_1]; rfl) (by decide) ?_
    refine lv_iload_n hx hb dX1_passesOn_32 rfl (lv_at hl 2 rfl) ?_
    exact retRi hx hb hr hlocks (by simp_all [tb, nI]) dX1_passesOn_33
  by_cases w_2 : k = nI 2
  · skip
    refine lv_tableIn (tgt := 34) hx hb dX1_passesOn_1 (by rw [w_2]; decide) (by rw [w_2]; decide) (by rw [w_2]; rfl) (by decide) ?_
    refine lv_iload_n hx hb dX1_passesOn_34 rfl (lv_at hl 1 rfl) ?_
    refine lv_bipush (v := nI 12) hx hb dX1_passesOn_35 (by decide) ?_
    refine lv_iadd hx hb dX1_passesOn_37 ?_
    refine lv_iload_n hx hb dX1_passesOn_38 rfl (lv_at hl 2 rfl) ?_
    refine lv_isub hx hb dX1_passesOn_39 ?_
    refine lv_bipush (v := nI 12) hx hb dX1_passesOn_40 (by decide) ?_
    refine w_rem hx hb (by decide) dX1_passesOn_42 ?_
    exact retRi hx hb hr hlocks (by simp_all [tb, nI]) dX1_passesOn_43
  by_cases w_3 : k = nI 3
  · skip
    refine lv_tableIn (tgt := 44) hx hb dX1_passesOn_1 (by rw [w_3]; decide) (by rw [w_3]; decide) (by rw [w_3]; rfl) (by decide) ?_
    refine lv_iload_n hx hb dX1_passesOn_44 rfl (lv_at hl 2 rfl) ?_
    refine lv_iload_n hx hb dX1_passesOn_45 rfl (lv_at hl 2 rfl) ?_
    refine lv_iconst (v := nI 2) hx hb dX1_passesOn_46 (by decide) ?_
    refine w_rem hx hb (by decide) dX1_passesOn_47 ?_
    refine lv_isub hx hb dX1_passesOn_48 ?_
    refine lv_iload_n hx hb dX1_passesOn_49 rfl (lv_at hl 1 rfl) ?_
    refine lv_iadd hx hb dX1_passesOn_50 ?_
    refine lv_bipush (v := nI 12) hx hb dX1_passesOn_51 (by decide) ?_
    refine w_rem hx hb (by decide) dX1_passesOn_53 ?_
    exact retRi hx hb hr hlocks (by simp_all [tb, nI]) dX1_passesOn_54
  by_cases w_4 : k = nI 4
  · skip
    refine lv_tableIn (tgt := 55) hx hb dX1_passesOn_1 (by rw [w_4]; decide) (by rw [w_4]; decide) (by rw [w_4]; rfl) (by decide) ?_
    refine lv_iconst (v := nI 2) hx hb dX1_passesOn_55 (by decide) ?_
    refine lv_iload_n hx hb dX1_passesOn_56 rfl (lv_at hl 2 rfl) ?_
    refine lv_imul hx hb dX1_passesOn_57 ?_
    refine lv_bipush (v := nI 12) hx hb dX1_passesOn_58 (by decide) ?_
    refine w_rem hx hb (by decide) dX1_passesOn_60 ?_
    exact retRi hx hb hr hlocks (by simp_all [tb, nI]) dX1_passesOn_61
  have hsw : ¬ k = nI 1 ∧ ¬ k = nI 2 ∧ ¬ k = nI 3 ∧ ¬ k = nI 4 := ⟨w_1, w_2, w_3, w_4⟩
  refine lv_tableOut (tgt := 62) hx hb dX1_passesOn_1 (by have z0 := w_tne (k := 1) (by decide) (hsw.1); have z1 := w_tne (k := 2) (by decide) (hsw.2.1); have z2 := w_tne (k := 3) (by decide) (hsw.2.2.1); have z3 := w_tne (k := 4) (by decide) (hsw.2.2.2); omega) (by decide) ?_
  refine lv_iload_n hx hb dX1_passesOn_62 rfl (lv_at hl 2 rfl) ?_
  refine lv_iload_n hx hb dX1_passesOn_63 rfl (lv_at hl 1 rfl) ?_
  refine lv_iadd hx hb dX1_passesOn_64 ?_
  refine lv_bipush (v := nI 12) hx hb dX1_passesOn_65 (by decide) ?_
  refine w_rem hx hb (by decide) dX1_passesOn_67 ?_
  exact retRi hx hb hr hlocks (by simp_all [tb, nI]) dX1_passesOn_68
set_option maxHeartbeats 4000000 in
set_option maxRecDepth 100000 in
theorem k_X3_isNone (l : Launch) (dC : Nat → ClassId) (dI : Nat → Nat → Nat) (cI cZ : ClassId) (q0 q1 q2 q3 q4 q5 q6 q7 : Nat) (fk fs fn fi fc fw ft : Nat → Int32) (n h : Nat) (th tt : Int32) (hn6 : n ≤ 6) : Met l yX3_isNone wsX3_isNone ({ frames := 0, cells := 0, slots := 0, locals := 0 }) (va_Pc [.ref q0] (PR (dC, dI) cI cZ [(q0, .inr (2, [.ref q1, .ref q2, .ref q3, .ref q4, .ref q5, .ref q6, .ref q7, .int (nI n), .int (nI h), .int (th), .int (tt)])), (q1, .inl (cI, 6, .inl (fk))), (q2, .inl (cI, 6, .inl (fs))), (q3, .inl (cI, 6, .inl (fn))), (q4, .inl (cZ, 6, .inl (fi))), (q5, .inl (cI, 8, .inl (fc))), (q6, .inl (cI, 8, .inl (fw))), (q7, .inl (cI, 8, .inl (ft)))])) (QRi ((if (n = 0) then nI 1 else nI 0))) 0 0 noF := by
  refine Met.ofW (cc := cX3_isNone) (maxL := 1) (ret := (some .boolean)) (by decide) rfl ?_
  intro p e s m args below meth co s₁ B hml hv
  obtain ⟨rfl, hP, hK⟩ := hv
  have hx := B.exec
  have hb := B.bytes
  have hr := B.returns
  have hts := atoms_spec (ws := wsX3_isNone) B.pre
  have hown : s.vm.findClass RX3 = some m.cls := findClass_of_methodNamed B.named
  have hlocks := B.notSynchronized
  have inX3 : ∀ w ∈ u_ws RX3 TX3 11, w ∈ wsX3_isNone := by decide +kernel
  have lf34 := hts (.fieldLink RX3 34 "ThursdayRungs$School" "size" "I") (by decide +kernel)
  have hl := lv_entry ([.ref q0]) (n := 1) (Nat.le_of_ble_eq_true rfl)
  rw [lg_entry_eq]
  generalize (lg_sl ([.ref q0]) ++ List.replicate (1 - (lg_sl ([.ref q0])).length) Slot.unset).toArray = ls at hl ⊢
  have hl : lv_has ls 1 [(0, .ref q0)] := hl
  refine lv_aload_n hx hb dX3_isNone_0 rfl (lv_at hl 0 rfl) ?_
  refine va_get (D := (dC, dI)) (ci := 2) (v := .int (nI n)) (C := RX3) (T := TX3) (N := 11) hx hb hts inX3 hown hK hP 0 rfl rfl 7 (by decide) lf34 (fun _ h9 => h9) rfl dX3_isNone_1 ?_
  refine w_ifneN (tgt := 11) hx hb (by omega) dX3_isNone_4 (by decide) (fun c_1 => ?_) (fun c_1 => ?_)
  · skip
    refine lv_iconst (v := nI 0) hx hb dX3_isNone_11 (by decide) ?_
    exact retRz hx hb hr hlocks rfl (by simp_all) dX3_isNone_12
  · skip
    refine lv_iconst (v := nI 1) hx hb dX3_isNone_7 (by decide) ?_
    refine lv_goto (tgt := 12) hx hb dX3_isNone_8 (by decide) ?_
    exact retRz hx hb hr hlocks rfl (by simp_all) dX3_isNone_12
set_option maxHeartbeats 4000000 in
set_option maxRecDepth 100000 in
theorem k_X3_has (l : Launch) (dC : Nat → ClassId) (dI : Nat → Nat → Nat) (cI cZ : ClassId) (q0 q1 q2 q3 q4 q5 q6 q7 : Nat) (fk fs fn fi fc fw ft : Nat → Int32) (n h : Nat) (th tt : Int32) (c : Int32) (hn6 : n ≤ 6) : Met l yX3_has wsX3_has ({ frames := 0, cells := 0, slots := 0, locals := 0 }) (va_Pc [.ref q0, .int (c)] (PR (dC, dI) cI cZ [(q0, .inr (2, [.ref q1, .ref q2, .ref q3, .ref q4, .ref q5, .ref q6, .ref q7, .int (nI n), .int (nI h), .int (th), .int (tt)])), (q1, .inl (cI, 6, .inl (fk))), (q2, .inl (cI, 6, .inl (fs))), (q3, .inl (cI, 6, .inl (fn))), (q4, .inl (cZ, 6, .inl (fi))), (q5, .inl (cI, 8, .inl (fc))), (q6, .inl (cI, 8, .inl (fw))), (q7, .inl (cI, 8, .inl (ft)))])) (QRi ((if (inR n c) then nI 1 else nI 0))) 0 0 noF := by
  refine Met.ofW (cc := cX3_has) (maxL := 2) (ret := (some .boolean)) (by decide) rfl ?_
  intro p e s m args below meth co s₁ B hml hv
  obtain ⟨rfl, hP, hK⟩ := hv
  have hx := B.exec
  have hb := B.bytes
  have hr := B.returns
  have hts := atoms_spec (ws := wsX3_has) B.pre
  have hown : s.vm.findClass RX3 = some m.cls := findClass_of_methodNamed B.named
  have hlocks := B.notSynchronized
  have inX3 : ∀ w ∈ u_ws RX3 TX3 11, w ∈ wsX3_has := by decide +kernel
  have lf34 := hts (.fieldLink RX3 34 "ThursdayRungs$School" "size" "I") (by decide +kernel)
  have hl := lv_entry ([.ref q0, .int (c)]) (n := 2) (Nat.le_of_ble_eq_true rfl)
  rw [lg_entry_eq]
  generalize (lg_sl ([.ref q0, .int (c)]) ++ List.replicate (2 - (lg_sl ([.ref q0, .int (c)])).length) Slot.unset).toArray = ls at hl ⊢
  have hl : lv_has ls 2 [(0, .ref q0), (1, .int (c))] := hl
  refine lv_iload_n hx hb dX3_has_0 rfl (lv_at hl 1 rfl) ?_
  refine lv_if_lt (tgt := 16) hx hb dX3_has_1 (by decide) (fun c_1 => ?_) (fun c_1 => ?_)
  · skip
    refine lv_iconst (v := nI 0) hx hb dX3_has_16 (by decide) ?_
    exact retRz hx hb hr hlocks rfl (by simp_all [has_iff (c := c) (show n < 2 ^ 31 by omega)]) dX3_has_17
  · skip
    refine lv_iload_n hx hb dX3_has_4 rfl (lv_at hl 1 rfl) ?_
    refine lv_aload_n hx hb dX3_has_5 rfl (lv_at hl 0 rfl) ?_
    refine va_get (D := (dC, dI)) (ci := 2) (v := .int (nI n)) (C := RX3) (T := TX3) (N := 11) hx hb hts inX3 hown hK hP 0 rfl rfl 7 (by decide) lf34 (fun _ h9 => h9) rfl dX3_has_6 ?_
    refine lv_icmp_ge (tgt := 16) hx hb dX3_has_9 (by decide) (fun c_2 => ?_) (fun c_2 => ?_)
    · skip
      refine lv_iconst (v := nI 0) hx hb dX3_has_16 (by decide) ?_
      exact retRz hx hb hr hlocks rfl (by simp_all [has_iff (c := c) (show n < 2 ^ 31 by omega)]) dX3_has_17
    · skip
      refine lv_iconst (v := nI 1) hx hb dX3_has_12 (by decide) ?_
      refine lv_goto (tgt := 17) hx hb dX3_has_13 (by decide) ?_
      exact retRz hx hb hr hlocks rfl (by simp_all [has_iff (c := c) (show n < 2 ^ 31 by omega)]) dX3_has_17
set_option maxHeartbeats 4000000 in
set_option maxRecDepth 100000 in
theorem k_X3_top (l : Launch) (dC : Nat → ClassId) (dI : Nat → Nat → Nat) (cI cZ : ClassId) (q0 q1 q2 q3 q4 q5 q6 q7 : Nat) (fk fs fn fi fc fw ft : Nat → Int32) (n h : Nat) (th tt : Int32) (hn1 : 1 ≤ n) (hn6 : n ≤ 6) : Met l yX3_top wsX3_top ({ frames := 0, cells := 0, slots := 0, locals := 0 }) (va_Pc [.ref q0] (PR (dC, dI) cI cZ [(q0, .inr (2, [.ref q1, .ref q2, .ref q3, .ref q4, .ref q5, .ref q6, .ref q7, .int (nI n), .int (nI h), .int (th), .int (tt)])), (q1, .inl (cI, 6, .inl (fk))), (q2, .inl (cI, 6, .inl (fs))), (q3, .inl (cI, 6, .inl (fn))), (q4, .inl (cZ, 6, .inl (fi))), (q5, .inl (cI, 8, .inl (fc))), (q6, .inl (cI, 8, .inl (fw))), (q7, .inl (cI, 8, .inl (ft)))])) (QRi (nI (n - 1))) 0 0 noF := by
  refine Met.ofW (cc := cX3_top) (maxL := 1) (ret := (some .int)) (by decide) rfl ?_
  intro p e s m args below meth co s₁ B hml hv
  obtain ⟨rfl, hP, hK⟩ := hv
  have hx := B.exec
  have hb := B.bytes
  have hr := B.returns
  have hts := atoms_spec (ws := wsX3_top) B.pre
  have hown : s.vm.findClass RX3 = some m.cls := findClass_of_methodNamed B.named
  have hlocks := B.notSynchronized
  have inX3 : ∀ w ∈ u_ws RX3 TX3 11, w ∈ wsX3_top := by decide +kernel
  have lf34 := hts (.fieldLink RX3 34 "ThursdayRungs$School" "size" "I") (by decide +kernel)
  have hl := lv_entry ([.ref q0]) (n := 1) (Nat.le_of_ble_eq_true rfl)
  rw [lg_entry_eq]
  generalize (lg_sl ([.ref q0]) ++ List.replicate (1 - (lg_sl ([.ref q0])).length) Slot.unset).toArray = ls at hl ⊢
  have hl : lv_has ls 1 [(0, .ref q0)] := hl
  refine lv_aload_n hx hb dX3_top_0 rfl (lv_at hl 0 rfl) ?_
  refine va_get (D := (dC, dI)) (ci := 2) (v := .int (nI n)) (C := RX3) (T := TX3) (N := 11) hx hb hts inX3 hown hK hP 0 rfl rfl 7 (by decide) lf34 (fun _ h9 => h9) rfl dX3_top_1 ?_
  refine lv_iconst (v := nI 1) hx hb dX3_top_4 (by decide) ?_
  refine w_subN hx hb (by omega) dX3_top_5 ?_
  exact retRi hx hb hr hlocks rfl dX3_top_6
set_option maxHeartbeats 4000000 in
set_option maxRecDepth 100000 in
theorem k_X3_isHeardFull (l : Launch) (dC : Nat → ClassId) (dI : Nat → Nat → Nat) (cI cZ : ClassId) (q0 q1 q2 q3 q4 q5 q6 q7 : Nat) (fk fs fn fi fc fw ft : Nat → Int32) (n h : Nat) (th tt : Int32) (hh8 : h ≤ 8) : Met l yX3_isHeardFull wsX3_isHeardFull ({ frames := 0, cells := 0, slots := 0, locals := 0 }) (va_Pc [.ref q0] (PR (dC, dI) cI cZ [(q0, .inr (2, [.ref q1, .ref q2, .ref q3, .ref q4, .ref q5, .ref q6, .ref q7, .int (nI n), .int (nI h), .int (th), .int (tt)])), (q1, .inl (cI, 6, .inl (fk))), (q2, .inl (cI, 6, .inl (fs))), (q3, .inl (cI, 6, .inl (fn))), (q4, .inl (cZ, 6, .inl (fi))), (q5, .inl (cI, 8, .inl (fc))), (q6, .inl (cI, 8, .inl (fw))), (q7, .inl (cI, 8, .inl (ft)))])) (QRi ((if (8 ≤ h) then nI 1 else nI 0))) 0 0 noF := by
  refine Met.ofW (cc := cX3_isHeardFull) (maxL := 1) (ret := (some .boolean)) (by decide) rfl ?_
  intro p e s m args below meth co s₁ B hml hv
  obtain ⟨rfl, hP, hK⟩ := hv
  have hx := B.exec
  have hb := B.bytes
  have hr := B.returns
  have hts := atoms_spec (ws := wsX3_isHeardFull) B.pre
  have hown : s.vm.findClass RX3 = some m.cls := findClass_of_methodNamed B.named
  have hlocks := B.notSynchronized
  have inX3 : ∀ w ∈ u_ws RX3 TX3 11, w ∈ wsX3_isHeardFull := by decide +kernel
  have lf38 := hts (.fieldLink RX3 38 "ThursdayRungs$School" "heard" "I") (by decide +kernel)
  have hl := lv_entry ([.ref q0]) (n := 1) (Nat.le_of_ble_eq_true rfl)
  rw [lg_entry_eq]
  generalize (lg_sl ([.ref q0]) ++ List.replicate (1 - (lg_sl ([.ref q0])).length) Slot.unset).toArray = ls at hl ⊢
  have hl : lv_has ls 1 [(0, .ref q0)] := hl
  refine lv_aload_n hx hb dX3_isHeardFull_0 rfl (lv_at hl 0 rfl) ?_
  refine va_get (D := (dC, dI)) (ci := 2) (v := .int (nI h)) (C := RX3) (T := TX3) (N := 11) hx hb hts inX3 hown hK hP 0 rfl rfl 8 (by decide) lf38 (fun _ h9 => h9) rfl dX3_isHeardFull_1 ?_
  refine lv_bipush (v := nI 8) hx hb dX3_isHeardFull_4 (by decide) ?_
  refine w_ci_lt (tgt := 13) hx hb (by omega) (by omega) dX3_isHeardFull_6 (by decide) (fun c_1 => ?_) (fun c_1 => ?_)
  · skip
    refine lv_iconst (v := nI 0) hx hb dX3_isHeardFull_13 (by decide) ?_
    exact retRz hx hb hr hlocks rfl (by simp_all; try omega) dX3_isHeardFull_14
  · skip
    refine lv_iconst (v := nI 1) hx hb dX3_isHeardFull_9 (by decide) ?_
    refine lv_goto (tgt := 14) hx hb dX3_isHeardFull_10 (by decide) ?_
    exact retRz hx hb hr hlocks rfl (by simp_all; try omega) dX3_isHeardFull_14
