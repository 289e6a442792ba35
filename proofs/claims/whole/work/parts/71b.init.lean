set_option maxHeartbeats 4000000 in
set_option maxRecDepth 100000 in
theorem k_X3_init (l : Launch) (dC : Nat → ClassId) (dI : Nat → Nat → Nat) (cI cZ : ClassId) (a0 sz : Nat) : Met l yX3_init wsX3_init ({ frames := 1, cells := 7, slots := 48, locals := 12 }) (va_Pc [.ref a0] (PW (dC, dI) cI cZ sz [(a0, .inr (2, [.null, .null, .null, .null, .null, .null, .null, .int (nI 0), .int (nI 0), .int (nI 0), .int (nI 0)]))])) (QC (dC, dI) [(a0, .inr (2, [.null, .null, .null, .null, .null, .null, .null, .int (nI 0), .int (nI 0), .int (nI 0), .int (nI 0)]))] (fun u9 : Nat → Nat => [(a0, .inr (2, [.ref (u9 0), .ref (u9 1), .ref (u9 2), .ref (u9 3), .ref (u9 4), .ref (u9 5), .ref (u9 6), .int (nI 0), .int (nI 0), .int (nI 0), .int (nI 0)])), ((u9 0), .inl (cI, 6, .inl (fun _ => nI 0))), ((u9 1), .inl (cI, 6, .inl (fun _ => nI 0))), ((u9 2), .inl (cI, 6, .inl (fun _ => nI 0))), ((u9 3), .inl (cZ, 6, .inl (fun _ => nI 0))), ((u9 4), .inl (cI, 8, .inl (fun _ => nI 0))), ((u9 5), .inl (cI, 8, .inl (fun _ => nI 0))), ((u9 6), .inl (cI, 8, .inl (fun _ => nI 0)))]) sz) 7 48 (va_A [(a0, .inr (2, [.null, .null, .null, .null, .null, .null, .null, .int (nI 0), .int (nI 0), .int (nI 0), .int (nI 0)]))] sz) := by
  refine Met.ofW (cc := cX3_init) (maxL := 1) (ret := none) (by decide) rfl ?_
  intro p e s m args below meth co s₁ B hml hv
  obtain ⟨rfl, hsz, hP, hK, hD0⟩ := hv
  have hx := B.exec
  have hb := B.bytes
  have hr := B.returns
  have hts := atoms_spec (ws := wsX3_init) B.pre
  have hown : s.vm.findClass RX3 = some m.cls := findClass_of_methodNamed B.named
  have hlocks := B.notSynchronized
  have hin : meth.name = "<init>" := (name_of_methodNamed B.named B.method).1
  subst hsz
  have hD := hD0.self (sz := s.heap.size)
  generalize hAe : va_A [(a0, .inr (2, [.null, .null, .null, .null, .null, .null, .null, .int (nI 0), .int (nI 0), .int (nI 0), .int (nI 0)]))] s.heap.size = A at hD ⊢
  have hA : ∀ q : Nat, s.heap.size ≤ q → A q := fun q h => by rw [← hAe]; exact Or.inr h
  have hS : va_S A s.heap s.heap [] := va_S.rf
  have inX3 : ∀ w ∈ u_ws RX3 TX3 11, w ∈ wsX3_init := by decide +kernel
  have la_boolean := hts (.arrayClass .boolean) (by decide +kernel)
  have la_int := hts (.arrayClass .int) (by decide +kernel)
  have lf11 := hts (.fieldLink RX3 11 "ThursdayRungs$School" "kinds" "[I") (by decide +kernel)
  have lf15 := hts (.fieldLink RX3 15 "ThursdayRungs$School" "slips" "[I") (by decide +kernel)
  have lf18 := hts (.fieldLink RX3 18 "ThursdayRungs$School" "known" "[I") (by decide +kernel)
  have lf21 := hts (.fieldLink RX3 21 "ThursdayRungs$School" "ill" "[Z") (by decide +kernel)
  have lf25 := hts (.fieldLink RX3 25 "ThursdayRungs$School" "heardChild" "[I") (by decide +kernel)
  have lf28 := hts (.fieldLink RX3 28 "ThursdayRungs$School" "heardKnew" "[I") (by decide +kernel)
  have lf31 := hts (.fieldLink RX3 31 "ThursdayRungs$School" "heardTaught" "[I") (by decide +kernel)
  have lf34 := hts (.fieldLink RX3 34 "ThursdayRungs$School" "size" "I") (by decide +kernel)
  have lf38 := hts (.fieldLink RX3 38 "ThursdayRungs$School" "heard" "I") (by decide +kernel)
  have lf41 := hts (.fieldLink RX3 41 "ThursdayRungs$School" "thursdays" "I") (by decide +kernel)
  have lf44 := hts (.fieldLink RX3 44 "ThursdayRungs$School" "timesTaught" "I") (by decide +kernel)
  have lobj := hts (.methodLink RX3 3 objectInit) (by decide +kernel)
  have loi := hts (.instanceMethod objectInit) (by decide +kernel)
  have hl := lv_entry ([.ref a0]) (n := 1) (Nat.le_of_ble_eq_true rfl)
  rw [lg_entry_eq]
  generalize (lg_sl ([.ref a0]) ++ List.replicate (1 - (lg_sl ([.ref a0])).length) Slot.unset).toArray = ls at hl ⊢
  have hl : lv_has ls 1 [(0, .ref a0)] := hl
  refine lv_aload_n hx hb dX3_init_0 rfl (lv_at hl 0 rfl) ?_
  refine W.objInit hx hb hown lobj loi (hts _ (List.mem_of_getElem? (i := 3) rfl)) rfl (by rw [hml]; exact hl.1) rfl dX3_init_1 (Nat.le_of_ble_eq_true rfl) (Nat.le_of_ble_eq_true rfl) ?_
  refine W.eq (g2 := F0 m 4 ls []) rfl ?_
  refine lv_aload_n hx hb dX3_init_4 rfl (lv_at hl 0 rfl) ?_
  refine lv_bipush (v := nI 6) hx hb dX3_init_5 (by decide) ?_
  refine w_newI (n := 6) hx hb la_int hK hP hD hS hA (by decide) (Nat.le_of_ble_eq_true rfl) (Nat.le_of_ble_eq_true rfl) dX3_init_7 (fun q7 H hP hD hS => ?_)
  have hP : va_P (dC, dI) vwCl [(a0, .inr (2, [.null, .null, .null, .null, .null, .null, .null, .int (nI 0), .int (nI 0), .int (nI 0), .int (nI 0)])), (q7, .inl (cI, 6, .inl (fun _ => nI 0)))] H := hP
  have hD : va_D A [(a0, .inr (2, [.null, .null, .null, .null, .null, .null, .null, .int (nI 0), .int (nI 0), .int (nI 0), .int (nI 0)])), (q7, .inl (cI, 6, .inl (fun _ => nI 0)))] := hD
  refine va_putF (D := (dC, dI)) (ci := 2) (v := .ref q7) (ty := .array .int) (C := RX3) (T := TX3) (N := 11) hx hb hts inX3 tyX3 tyX3_ok nmX3 hown hK hP hD hS 0 rfl rfl 0 (by decide) lf11 (fun _ h9 => h9) rfl hin rfl (by decide +kernel) rfl rfl (Nat.le_of_ble_eq_true rfl) dX3_init_9 (fun H locs hP hD hS => ?_)
  have hP : va_P (dC, dI) vwCl [(a0, .inr (2, [.ref q7, .null, .null, .null, .null, .null, .null, .int (nI 0), .int (nI 0), .int (nI 0), .int (nI 0)])), (q7, .inl (cI, 6, .inl (fun _ => nI 0)))] H := hP
  have hD : va_D A [(a0, .inr (2, [.ref q7, .null, .null, .null, .null, .null, .null, .int (nI 0), .int (nI 0), .int (nI 0), .int (nI 0)])), (q7, .inl (cI, 6, .inl (fun _ => nI 0)))] := hD
  refine lv_aload_n hx hb dX3_init_12 rfl (lv_at hl 0 rfl) ?_
  refine lv_bipush (v := nI 6) hx hb dX3_init_13 (by decide) ?_
  refine w_newI (n := 6) hx hb la_int hK hP hD hS hA (by decide) (Nat.le_of_ble_eq_true rfl) (Nat.le_of_ble_eq_true rfl) dX3_init_15 (fun q15 H hP hD hS => ?_)
  have hP : va_P (dC, dI) vwCl [(a0, .inr (2, [.ref q7, .null, .null, .null, .null, .null, .null, .int (nI 0), .int (nI 0), .int (nI 0), .int (nI 0)])), (q7, .inl (cI, 6, .inl (fun _ => nI 0))), (q15, .inl (cI, 6, .inl (fun _ => nI 0)))] H := hP
  have hD : va_D A [(a0, .inr (2, [.ref q7, .null, .null, .null, .null, .null, .null, .int (nI 0), .int (nI 0), .int (nI 0), .int (nI 0)])), (q7, .inl (cI, 6, .inl (fun _ => nI 0))), (q15, .inl (cI, 6, .inl (fun _ => nI 0)))] := hD
  refine va_putF (D := (dC, dI)) (ci := 2) (v := .ref q15) (ty := .array .int) (C := RX3) (T := TX3) (N := 11) hx hb hts inX3 tyX3 tyX3_ok nmX3 hown hK hP hD hS 0 rfl rfl 1 (by decide) lf15 (fun _ h9 => h9) rfl hin rfl (by decide +kernel) rfl rfl (Nat.le_of_ble_eq_true rfl) dX3_init_17 (fun H locs hP hD hS => ?_)
  have hP : va_P (dC, dI) vwCl [(a0, .inr (2, [.ref q7, .ref q15, .null, .null, .null, .null, .null, .int (nI 0), .int (nI 0), .int (nI 0), .int (nI 0)])), (q7, .inl (cI, 6, .inl (fun _ => nI 0))), (q15, .inl (cI, 6, .inl (fun _ => nI 0)))] H := hP
  have hD : va_D A [(a0, .inr (2, [.ref q7, .ref q15, .null, .null, .null, .null, .null, .int (nI 0), .int (nI 0), .int (nI 0), .int (nI 0)])), (q7, .inl (cI, 6, .inl (fun _ => nI 0))), (q15, .inl (cI, 6, .inl (fun _ => nI 0)))] := hD
  refine lv_aload_n hx hb dX3_init_20 rfl (lv_at hl 0 rfl) ?_
  refine lv_bipush (v := nI 6) hx hb dX3_init_21 (by decide) ?_
  refine w_newI (n := 6) hx hb la_int hK hP hD hS hA (by decide) (Nat.le_of_ble_eq_true rfl) (Nat.le_of_ble_eq_true rfl) dX3_init_23 (fun q23 H hP hD hS => ?_)
  have hP : va_P (dC, dI) vwCl [(a0, .inr (2, [.ref q7, .ref q15, .null, .null, .null, .null, .null, .int (nI 0), .int (nI 0), .int (nI 0), .int (nI 0)])), (q7, .inl (cI, 6, .inl (fun _ => nI 0))), (q15, .inl (cI, 6, .inl (fun _ => nI 0))), (q23, .inl (cI, 6, .inl (fun _ => nI 0)))] H := hP
  have hD : va_D A [(a0, .inr (2, [.ref q7, .ref q15, .null, .null, .null, .null, .null, .int (nI 0), .int (nI 0), .int (nI 0), .int (nI 0)])), (q7, .inl (cI, 6, .inl (fun _ => nI 0))), (q15, .inl (cI, 6, .inl (fun _ => nI 0))), (q23, .inl (cI, 6, .inl (fun _ => nI 0)))] := hD
  refine va_putF (D := (dC, dI)) (ci := 2) (v := .ref q23) (ty := .array .int) (C := RX3) (T := TX3) (N := 11) hx hb hts inX3 tyX3 tyX3_ok nmX3 hown hK hP hD hS 0 rfl rfl 2 (by decide) lf18 (fun _ h9 => h9) rfl hin rfl (by decide +kernel) rfl rfl (Nat.le_of_ble_eq_true rfl) dX3_init_25 (fun H locs hP hD hS => ?_)
  have hP : va_P (dC, dI) vwCl [(a0, .inr (2, [.ref q7, .ref q15, .ref q23, .null, .null, .null, .null, .int (nI 0), .int (nI 0), .int (nI 0), .int (nI 0)])), (q7, .inl (cI, 6, .inl (fun _ => nI 0))), (q15, .inl (cI, 6, .inl (fun _ => nI 0))), (q23, .inl (cI, 6, .inl (fun _ => nI 0)))] H := hP
  have hD : va_D A [(a0, .inr (2, [.ref q7, .ref q15, .ref q23, .null, .null, .null, .null, .int (nI 0), .int (nI 0), .int (nI 0), .int (nI 0)])), (q7, .inl (cI, 6, .inl (fun _ => nI 0))), (q15, .inl (cI, 6, .inl (fun _ => nI 0))), (q23, .inl (cI, 6, .inl (fun _ => nI 0)))] := hD
  refine lv_aload_n hx hb dX3_init_28 rfl (lv_at hl 0 rfl) ?_
  refine lv_bipush (v := nI 6) hx hb dX3_init_29 (by decide) ?_
  refine w_newZ (n := 6) hx hb la_boolean hK hP hD hS hA (by decide) (Nat.le_of_ble_eq_true rfl) (Nat.le_of_ble_eq_true rfl) dX3_init_31 (fun q31 H hP hD hS => ?_)
  have hP : va_P (dC, dI) vwCl [(a0, .inr (2, [.ref q7, .ref q15, .ref q23, .null, .null, .null, .null, .int (nI 0), .int (nI 0), .int (nI 0), .int (nI 0)])), (q7, .inl (cI, 6, .inl (fun _ => nI 0))), (q15, .inl (cI, 6, .inl (fun _ => nI 0))), (q23, .inl (cI, 6, .inl (fun _ => nI 0))), (q31, .inl (cZ, 6, .inl (fun _ => nI 0)))] H := hP
  have hD : va_D A [(a0, .inr (2, [.ref q7, .ref q15, .ref q23, .null, .null, .null, .null, .int (nI 0), .int (nI 0), .int (nI 0), .int (nI 0)])), (q7, .inl (cI, 6, .inl (fun _ => nI 0))), (q15, .inl (cI, 6, .inl (fun _ => nI 0))), (q23, .inl (cI, 6, .inl (fun _ => nI 0))), (q31, .inl (cZ, 6, .inl (fun _ => nI 0)))] := hD
  refine va_putF (D := (dC, dI)) (ci := 2) (v := .ref q31) (ty := .array .boolean) (C := RX3) (T := TX3) (N := 11) hx hb hts inX3 tyX3 tyX3_ok nmX3 hown hK hP hD hS 0 rfl rfl 3 (by decide) lf21 (fun _ h9 => h9) rfl hin rfl (by decide +kernel) rfl rfl (Nat.le_of_ble_eq_true rfl) dX3_init_33 (fun H locs hP hD hS => ?_)
  have hP : va_P (dC, dI) vwCl [(a0, .inr (2, [.ref q7, .ref q15, .ref q23, .ref q31, .null, .null, .null, .int (nI 0), .int (nI 0), .int (nI 0), .int (nI 0)])), (q7, .inl (cI, 6, .inl (fun _ => nI 0))), (q15, .inl (cI, 6, .inl (fun _ => nI 0))), (q23, .inl (cI, 6, .inl (fun _ => nI 0))), (q31, .inl (cZ, 6, .inl (fun _ => nI 0)))] H := hP
  have hD : va_D A [(a0, .inr (2, [.ref q7, .ref q15, .ref q23, .ref q31, .null, .null, .null, .int (nI 0), .int (nI 0), .int (nI 0), .int (nI 0)])), (q7, .inl (cI, 6, .inl (fun _ => nI 0))), (q15, .inl (cI, 6, .inl (fun _ => nI 0))), (q23, .inl (cI, 6, .inl (fun _ => nI 0))), (q31, .inl (cZ, 6, .inl (fun _ => nI 0)))] := hD
  refine lv_aload_n hx hb dX3_init_36 rfl (lv_at hl 0 rfl) ?_
  refine lv_bipush (v := nI 8) hx hb dX3_init_37 (by decide) ?_
  refine w_newI (n := 8) hx hb la_int hK hP hD hS hA (by decide) (Nat.le_of_ble_eq_true rfl) (Nat.le_of_ble_eq_true rfl) dX3_init_39 (fun q39 H hP hD hS => ?_)
  have hP : va_P (dC, dI) vwCl [(a0, .inr (2, [.ref q7, .ref q15, .ref q23, .ref q31, .null, .null, .null, .int (nI 0), .int (nI 0), .int (nI 0), .int (nI 0)])), (q7, .inl (cI, 6, .inl (fun _ => nI 0))), (q15, .inl (cI, 6, .inl (fun _ => nI 0))), (q23, .inl (cI, 6, .inl (fun _ => nI 0))), (q31, .inl (cZ, 6, .inl (fun _ => nI 0))), (q39, .inl (cI, 8, .inl (fun _ => nI 0)))] H := hP
  have hD : va_D A [(a0, .inr (2, [.ref q7, .ref q15, .ref q23, .ref q31, .null, .null, .null, .int (nI 0), .int (nI 0), .int (nI 0), .int (nI 0)])), (q7, .inl (cI, 6, .inl (fun _ => nI 0))), (q15, .inl (cI, 6, .inl (fun _ => nI 0))), (q23, .inl (cI, 6, .inl (fun _ => nI 0))), (q31, .inl (cZ, 6, .inl (fun _ => nI 0))), (q39, .inl (cI, 8, .inl (fun _ => nI 0)))] := hD
  refine va_putF (D := (dC, dI)) (ci := 2) (v := .ref q39) (ty := .array .int) (C := RX3) (T := TX3) (N := 11) hx hb hts inX3 tyX3 tyX3_ok nmX3 hown hK hP hD hS 0 rfl rfl 4 (by decide) lf25 (fun _ h9 => h9) rfl hin rfl (by decide +kernel) rfl rfl (Nat.le_of_ble_eq_true rfl) dX3_init_41 (fun H locs hP hD hS => ?_)
  have hP : va_P (dC, dI) vwCl [(a0, .inr (2, [.ref q7, .ref q15, .ref q23, .ref q31, .ref q39, .null, .null, .int (nI 0), .int (nI 0), .int (nI 0), .int (nI 0)])), (q7, .inl (cI, 6, .inl (fun _ => nI 0))), (q15, .inl (cI, 6, .inl (fun _ => nI 0))), (q23, .inl (cI, 6, .inl (fun _ => nI 0))), (q31, .inl (cZ, 6, .inl (fun _ => nI 0))), (q39, .inl (cI, 8, .inl (fun _ => nI 0)))] H := hP
  have hD : va_D A [(a0, .inr (2, [.ref q7, .ref q15, .ref q23, .ref q31, .ref q39, .null, .null, .int (nI 0), .int (nI 0), .int (nI 0), .int (nI 0)])), (q7, .inl (cI, 6, .inl (fun _ => nI 0))), (q15, .inl (cI, 6, .inl (fun _ => nI 0))), (q23, .inl (cI, 6, .inl (fun _ => nI 0))), (q31, .inl (cZ, 6, .inl (fun _ => nI 0))), (q39, .inl (cI, 8, .inl (fun _ => nI 0)))] := hD
  refine lv_aload_n hx hb dX3_init_44 rfl (lv_at hl 0 rfl) ?_
  refine lv_bipush (v := nI 8) hx hb dX3_init_45 (by decide) ?_
  refine w_newI (n := 8) hx hb la_int hK hP hD hS hA (by decide) (Nat.le_of_ble_eq_true rfl) (Nat.le_of_ble_eq_true rfl) dX3_init_47 (fun q47 H hP hD hS => ?_)
  have hP : va_P (dC, dI) vwCl [(a0, .inr (2, [.ref q7, .ref q15, .ref q23, .ref q31, .ref q39, .null, .null, .int (nI 0), .int (nI 0), .int (nI 0), .int (nI 0)])), (q7, .inl (cI, 6, .inl (fun _ => nI 0))), (q15, .inl (cI, 6, .inl (fun _ => nI 0))), (q23, .inl (cI, 6, .inl (fun _ => nI 0))), (q31, .inl (cZ, 6, .inl (fun _ => nI 0))), (q39, .inl (cI, 8, .inl (fun _ => nI 0))), (q47, .inl (cI, 8, .inl (fun _ => nI 0)))] H := hP
  have hD : va_D A [(a0, .inr (2, [.ref q7, .ref q15, .ref q23, .ref q31, .ref q39, .null, .null, .int (nI 0), .int (nI 0), .int (nI 0), .int (nI 0)])), (q7, .inl (cI, 6, .inl (fun _ => nI 0))), (q15, .inl (cI, 6, .inl (fun _ => nI 0))), (q23, .inl (cI, 6, .inl (fun _ => nI 0))), (q31, .inl (cZ, 6, .inl (fun _ => nI 0))), (q39, .inl (cI, 8, .inl (fun _ => nI 0))), (q47, .inl (cI, 8, .inl (fun _ => nI 0)))] := hD
  refine va_putF (D := (dC, dI)) (ci := 2) (v := .ref q47) (ty := .array .int) (C := RX3) (T := TX3) (N := 11) hx hb hts inX3 tyX3 tyX3_ok nmX3 hown hK hP hD hS 0 rfl rfl 5 (by decide) lf28 (fun _ h9 => h9) rfl hin rfl (by decide +kernel) rfl rfl (Nat.le_of_ble_eq_true rfl) dX3_init_49 (fun H locs hP hD hS => ?_)
  have hP : va_P (dC, dI) vwCl [(a0, .inr (2, [.ref q7, .ref q15, .ref q23, .ref q31, .ref q39, .ref q47, .null, .int (nI 0), .int (nI 0), .int (nI 0), .int (nI 0)])), (q7, .inl (cI, 6, .inl (fun _ => nI 0))), (q15, .inl (cI, 6, .inl (fun _ => nI 0))), (q23, .inl (cI, 6, .inl (fun _ => nI 0))), (q31, .inl (cZ, 6, .inl (fun _ => nI 0))), (q39, .inl (cI, 8, .inl (fun _ => nI 0))), (q47, .inl (cI, 8, .inl (fun _ => nI 0)))] H := hP
  have hD : va_D A [(a0, .inr (2, [.ref q7, .ref q15, .ref q23, .ref q31, .ref q39, .ref q47, .null, .int (nI 0), .int (nI 0), .int (nI 0), .int (nI 0)])), (q7, .inl (cI, 6, .inl (fun _ => nI 0))), (q15, .inl (cI, 6, .inl (fun _ => nI 0))), (q23, .inl (cI, 6, .inl (fun _ => nI 0))), (q31, .inl (cZ, 6, .inl (fun _ => nI 0))), (q39, .inl (cI, 8, .inl (fun _ => nI 0))), (q47, .inl (cI, 8, .inl (fun _ => nI 0)))] := hD
  refine lv_aload_n hx hb dX3_init_52 rfl (lv_at hl 0 rfl) ?_
  refine lv_bipush (v := nI 8) hx hb dX3_init_53 (by decide) ?_
  refine w_newI (n := 8) hx hb la_int hK hP hD hS hA (by decide) (Nat.le_of_ble_eq_true rfl) (Nat.le_of_ble_eq_true rfl) dX3_init_55 (fun q55 H hP hD hS => ?_)
  have hP : va_P (dC, dI) vwCl [(a0, .inr (2, [.ref q7, .ref q15, .ref q23, .ref q31, .ref q39, .ref q47, .null, .int (nI 0), .int (nI 0), .int (nI 0), .int (nI 0)])), (q7, .inl (cI, 6, .inl (fun _ => nI 0))), (q15, .inl (cI, 6, .inl (fun _ => nI 0))), (q23, .inl (cI, 6, .inl (fun _ => nI 0))), (q31, .inl (cZ, 6, .inl (fun _ => nI 0))), (q39, .inl (cI, 8, .inl (fun _ => nI 0))), (q47, .inl (cI, 8, .inl (fun _ => nI 0))), (q55, .inl (cI, 8, .inl (fun _ => nI 0)))] H := hP
  have hD : va_D A [(a0, .inr (2, [.ref q7, .ref q15, .ref q23, .ref q31, .ref q39, .ref q47, .null, .int (nI 0), .int (nI 0), .int (nI 0), .int (nI 0)])), (q7, .inl (cI, 6, .inl (fun _ => nI 0))), (q15, .inl (cI, 6, .inl (fun _ => nI 0))), (q23, .inl (cI, 6, .inl (fun _ => nI 0))), (q31, .inl (cZ, 6, .inl (fun _ => nI 0))), (q39, .inl (cI, 8, .inl (fun _ => nI 0))), (q47, .inl (cI, 8, .inl (fun _ => nI 0))), (q55, .inl (cI, 8, .inl (fun _ => nI 0)))] := hD
  refine va_putF (D := (dC, dI)) (ci := 2) (v := .ref q55) (ty := .array .int) (C := RX3) (T := TX3) (N := 11) hx hb hts inX3 tyX3 tyX3_ok nmX3 hown hK hP hD hS 0 rfl rfl 6 (by decide) lf31 (fun _ h9 => h9) rfl hin rfl (by decide +kernel) rfl rfl (Nat.le_of_ble_eq_true rfl) dX3_init_57 (fun H locs hP hD hS => ?_)
  have hP : va_P (dC, dI) vwCl [(a0, .inr (2, [.ref q7, .ref q15, .ref q23, .ref q31, .ref q39, .ref q47, .ref q55, .int (nI 0), .int (nI 0), .int (nI 0), .int (nI 0)])), (q7, .inl (cI, 6, .inl (fun _ => nI 0))), (q15, .inl (cI, 6, .inl (fun _ => nI 0))), (q23, .inl (cI, 6, .inl (fun _ => nI 0))), (q31, .inl (cZ, 6, .inl (fun _ => nI 0))), (q39, .inl (cI, 8, .inl (fun _ => nI 0))), (q47, .inl (cI, 8, .inl (fun _ => nI 0))), (q55, .inl (cI, 8, .inl (fun _ => nI 0)))] H := hP
  have hD : va_D A [(a0, .inr (2, [.ref q7, .ref q15, .ref q23, .ref q31, .ref q39, .ref q47, .ref q55, .int (nI 0), .int (nI 0), .int (nI 0), .int (nI 0)])), (q7, .inl (cI, 6, .inl (fun _ => nI 0))), (q15, .inl (cI, 6, .inl (fun _ => nI 0))), (q23, .inl (cI, 6, .inl (fun _ => nI 0))), (q31, .inl (cZ, 6, .inl (fun _ => nI 0))), (q39, .inl (cI, 8, .inl (fun _ => nI 0))), (q47, .inl (cI, 8, .inl (fun _ => nI 0))), (q55, .inl (cI, 8, .inl (fun _ => nI 0)))] := hD
  refine lv_aload_n hx hb dX3_init_60 rfl (lv_at hl 0 rfl) ?_
  refine lv_iconst (v := nI 0) hx hb dX3_init_61 (by decide) ?_
  refine va_put (D := (dC, dI)) (ci := 2) (v := .int (nI 0)) (ty := .int) (C := RX3) (T := TX3) (N := 11) hx hb hts inX3 tyX3 tyX3_ok nmX3 hown hK hP hD hS 0 rfl rfl 7 (by decide) lf34 (fun _ h9 => h9) rfl (by decide +kernel) rfl rfl (Nat.le_of_ble_eq_true rfl) dX3_init_62 (fun H locs hP hD hS => ?_)
  have hP : va_P (dC, dI) vwCl [(a0, .inr (2, [.ref q7, .ref q15, .ref q23, .ref q31, .ref q39, .ref q47, .ref q55, .int (nI 0), .int (nI 0), .int (nI 0), .int (nI 0)])), (q7, .inl (cI, 6, .inl (fun _ => nI 0))), (q15, .inl (cI, 6, .inl (fun _ => nI 0))), (q23, .inl (cI, 6, .inl (fun _ => nI 0))), (q31, .inl (cZ, 6, .inl (fun _ => nI 0))), (q39, .inl (cI, 8, .inl (fun _ => nI 0))), (q47, .inl (cI, 8, .inl (fun _ => nI 0))), (q55, .inl (cI, 8, .inl (fun _ => nI 0)))] H := hP
  have hD : va_D A [(a0, .inr (2, [.ref q7, .ref q15, .ref q23, .ref q31, .ref q39, .ref q47, .ref q55, .int (nI 0), .int (nI 0), .int (nI 0), .int (nI 0)])), (q7, .inl (cI, 6, .inl (fun _ => nI 0))), (q15, .inl (cI, 6, .inl (fun _ => nI 0))), (q23, .inl (cI, 6, .inl (fun _ => nI 0))), (q31, .inl (cZ, 6, .inl (fun _ => nI 0))), (q39, .inl (cI, 8, .inl (fun _ => nI 0))), (q47, .inl (cI, 8, .inl (fun _ => nI 0))), (q55, .inl (cI, 8, .inl (fun _ => nI 0)))] := hD
  refine lv_aload_n hx hb dX3_init_65 rfl (lv_at hl 0 rfl) ?_
  refine lv_iconst (v := nI 0) hx hb dX3_init_66 (by decide) ?_
  refine va_put (D := (dC, dI)) (ci := 2) (v := .int (nI 0)) (ty := .int) (C := RX3) (T := TX3) (N := 11) hx hb hts inX3 tyX3 tyX3_ok nmX3 hown hK hP hD hS 0 rfl rfl 8 (by decide) lf38 (fun _ h9 => h9) rfl (by decide +kernel) rfl rfl (Nat.le_of_ble_eq_true rfl) dX3_init_67 (fun H locs hP hD hS => ?_)
  have hP : va_P (dC, dI) vwCl [(a0, .inr (2, [.ref q7, .ref q15, .ref q23, .ref q31, .ref q39, .ref q47, .ref q55, .int (nI 0), .int (nI 0), .int (nI 0), .int (nI 0)])), (q7, .inl (cI, 6, .inl (fun _ => nI 0))), (q15, .inl (cI, 6, .inl (fun _ => nI 0))), (q23, .inl (cI, 6, .inl (fun _ => nI 0))), (q31, .inl (cZ, 6, .inl (fun _ => nI 0))), (q39, .inl (cI, 8, .inl (fun _ => nI 0))), (q47, .inl (cI, 8, .inl (fun _ => nI 0))), (q55, .inl (cI, 8, .inl (fun _ => nI 0)))] H := hP
  have hD : va_D A [(a0, .inr (2, [.ref q7, .ref q15, .ref q23, .ref q31, .ref q39, .ref q47, .ref q55, .int (nI 0), .int (nI 0), .int (nI 0), .int (nI 0)])), (q7, .inl (cI, 6, .inl (fun _ => nI 0))), (q15, .inl (cI, 6, .inl (fun _ => nI 0))), (q23, .inl (cI, 6, .inl (fun _ => nI 0))), (q31, .inl (cZ, 6, .inl (fun _ => nI 0))), (q39, .inl (cI, 8, .inl (fun _ => nI 0))), (q47, .inl (cI, 8, .inl (fun _ => nI 0))), (q55, .inl (cI, 8, .inl (fun _ => nI 0)))] := hD
  refine lv_aload_n hx hb dX3_init_70 rfl (lv_at hl 0 rfl) ?_
  refine lv_iconst (v := nI 0) hx hb dX3_init_71 (by decide) ?_
  refine va_put (D := (dC, dI)) (ci := 2) (v := .int (nI 0)) (ty := .int) (C := RX3) (T := TX3) (N := 11) hx hb hts inX3 tyX3 tyX3_ok nmX3 hown hK hP hD hS 0 rfl rfl 9 (by decide) lf41 (fun _ h9 => h9) rfl (by decide +kernel) rfl rfl (Nat.le_of_ble_eq_true rfl) dX3_init_72 (fun H locs hP hD hS => ?_)
  have hP : va_P (dC, dI) vwCl [(a0, .inr (2, [.ref q7, .ref q15, .ref q23, .ref q31, .ref q39, .ref q47, .ref q55, .int (nI 0), .int (nI 0), .int (nI 0), .int (nI 0)])), (q7, .inl (cI, 6, .inl (fun _ => nI 0))), (q15, .inl (cI, 6, .inl (fun _ => nI 0))), (q23, .inl (cI, 6, .inl (fun _ => nI 0))), (q31, .inl (cZ, 6, .inl (fun _ => nI 0))), (q39, .inl (cI, 8, .inl (fun _ => nI 0))), (q47, .inl (cI, 8, .inl (fun _ => nI 0))), (q55, .inl (cI, 8, .inl (fun _ => nI 0)))] H := hP
  have hD : va_D A [(a0, .inr (2, [.ref q7, .ref q15, .ref q23, .ref q31, .ref q39, .ref q47, .ref q55, .int (nI 0), .int (nI 0), .int (nI 0), .int (nI 0)])), (q7, .inl (cI, 6, .inl (fun _ => nI 0))), (q15, .inl (cI, 6, .inl (fun _ => nI 0))), (q23, .inl (cI, 6, .inl (fun _ => nI 0))), (q31, .inl (cZ, 6, .inl (fun _ => nI 0))), (q39, .inl (cI, 8, .inl (fun _ => nI 0))), (q47, .inl (cI, 8, .inl (fun _ => nI 0))), (q55, .inl (cI, 8, .inl (fun _ => nI 0)))] := hD
  refine lv_aload_n hx hb dX3_init_75 rfl (lv_at hl 0 rfl) ?_
  refine lv_iconst (v := nI 0) hx hb dX3_init_76 (by decide) ?_
  refine va_put (D := (dC, dI)) (ci := 2) (v := .int (nI 0)) (ty := .int) (C := RX3) (T := TX3) (N := 11) hx hb hts inX3 tyX3 tyX3_ok nmX3 hown hK hP hD hS 0 rfl rfl 10 (by decide) lf44 (fun _ h9 => h9) rfl (by decide +kernel) rfl rfl (Nat.le_of_ble_eq_true rfl) dX3_init_77 (fun H locs hP hD hS => ?_)
  have hP : va_P (dC, dI) vwCl [(a0, .inr (2, [.ref q7, .ref q15, .ref q23, .ref q31, .ref q39, .ref q47, .ref q55, .int (nI 0), .int (nI 0), .int (nI 0), .int (nI 0)])), (q7, .inl (cI, 6, .inl (fun _ => nI 0))), (q15, .inl (cI, 6, .inl (fun _ => nI 0))), (q23, .inl (cI, 6, .inl (fun _ => nI 0))), (q31, .inl (cZ, 6, .inl (fun _ => nI 0))), (q39, .inl (cI, 8, .inl (fun _ => nI 0))), (q47, .inl (cI, 8, .inl (fun _ => nI 0))), (q55, .inl (cI, 8, .inl (fun _ => nI 0)))] H := hP
  have hD : va_D A [(a0, .inr (2, [.ref q7, .ref q15, .ref q23, .ref q31, .ref q39, .ref q47, .ref q55, .int (nI 0), .int (nI 0), .int (nI 0), .int (nI 0)])), (q7, .inl (cI, 6, .inl (fun _ => nI 0))), (q15, .inl (cI, 6, .inl (fun _ => nI 0))), (q23, .inl (cI, 6, .inl (fun _ => nI 0))), (q31, .inl (cZ, 6, .inl (fun _ => nI 0))), (q39, .inl (cI, 8, .inl (fun _ => nI 0))), (q47, .inl (cI, 8, .inl (fun _ => nI 0))), (q55, .inl (cI, 8, .inl (fun _ => nI 0)))] := hD
  refine W.widen (k := 7) (n := 48) (Nat.le_of_ble_eq_true rfl) (Nat.le_of_ble_eq_true rfl) ?_
  exact retC (u := fun i => [q7, q15, q23, q31, q39, q47, q55].getD i 0) hx hb hr hlocks hP hD hS hAe dX3_init_80
