set_option maxHeartbeats 1000000 in
set_option maxRecDepth 100000 in
theorem k_X5_kindBy (l : Launch) (dC : Nat → ClassId) (dI : Nat → Nat → Nat) (cI cZ : ClassId) (x : Int32) : Met l yX5_kindBy wsX5_kindBy ({ frames := 0, cells := 0, slots := 0, locals := 0 }) (va_Pc [.int (x)] (PR (dC, dI) cI cZ [])) (QRi ((kb x))) 0 0 noF := by
  refine Met.ofW (cc := cX5_kindBy) (maxL := 1) (ret := (some .int)) (by decide) rfl ?_
  intro p e s m args below meth co s₁ B hml hv
  obtain ⟨rfl, hP, hK⟩ := hv
  have hx := B.exec
  have hb := B.bytes
  have hr := B.returns
  have hts := atoms_spec (ws := wsX5_kindBy) B.pre
  have hown : s.vm.findClass RX5 = some m.cls := findClass_of_methodNamed B.named
  have hlocks := B.notSynchronized
  have hl := lv_entry ([.int (x)]) (n := 1) (Nat.le_of_ble_eq_true rfl)
  rw [lg_entry_eq]
  generalize (lg_sl ([.int (x)]) ++ List.replicate (1 - (lg_sl ([.int (x)])).length) Slot.unset).toArray = ls at hl ⊢
  have hl : lv_has ls 1 [(0, .int (x))] := hl
  refine lv_iload_n hx hb dX5_kindBy_0 rfl (lv_at hl 0 rfl) ?_
  refine lv_bipush (v := nI 99) hx hb dX5_kindBy_1 (by decide) ?_
  refine lv_icmp_ne (tgt := 10) hx hb dX5_kindBy_3 (by decide) (fun c_1 => ?_) (fun c_1 => ?_)
  · skip
    refine lv_iload_n hx hb dX5_kindBy_10 rfl (lv_at hl 0 rfl) ?_
    refine lv_bipush (v := nI 112) hx hb dX5_kindBy_11 (by decide) ?_
    refine lv_icmp_ne (tgt := 20) hx hb dX5_kindBy_13 (by decide) (fun c_2 => ?_) (fun c_2 => ?_)
    · skip
      refine lv_iload_n hx hb dX5_kindBy_20 rfl (lv_at hl 0 rfl) ?_
      refine lv_bipush (v := nI 116) hx hb dX5_kindBy_21 (by decide) ?_
      refine lv_icmp_ne (tgt := 30) hx hb dX5_kindBy_23 (by decide) (fun c_3 => ?_) (fun c_3 => ?_)
      · skip
        refine lv_iload_n hx hb dX5_kindBy_30 rfl (lv_at hl 0 rfl) ?_
        refine lv_bipush (v := nI 109) hx hb dX5_kindBy_31 (by decide) ?_
        refine lv_icmp_ne (tgt := 40) hx hb dX5_kindBy_33 (by decide) (fun c_4 => ?_) (fun c_4 => ?_)
        · skip
          refine lv_iload_n hx hb dX5_kindBy_40 rfl (lv_at hl 0 rfl) ?_
          refine lv_bipush (v := nI 101) hx hb dX5_kindBy_41 (by decide) ?_
          refine lv_icmp_ne (tgt := 50) hx hb dX5_kindBy_43 (by decide) (fun c_5 => ?_) (fun c_5 => ?_)
          · skip
            refine lv_iconst (v := -1) hx hb dX5_kindBy_50 (by decide) ?_
            exact retRi hx hb hr hlocks (by first | exact kb_1 (by with_reducible assumption) | exact kb_2 (by with_reducible assumption) (by with_reducible assumption) | exact kb_3 (by with_reducible assumption) (by with_reducible assumption) (by with_reducible assumption) | exact kb_4 (by with_reducible assumption) (by with_reducible assumption) (by with_reducible assumption) (by with_reducible assumption) | exact kb_5 (by with_reducible assumption) (by with_reducible assumption) (by with_reducible assumption) (by with_reducible assumption) (by with_reducible assumption) | exact kb_6 (by with_reducible assumption) (by with_reducible assumption) (by with_reducible assumption) (by with_reducible assumption) (by with_reducible assumption)) dX5_kindBy_51
          · skip
            refine lv_iconst (v := nI 4) hx hb dX5_kindBy_46 (by decide) ?_
            refine lv_goto (tgt := 51) hx hb dX5_kindBy_47 (by decide) ?_
            exact retRi hx hb hr hlocks (by first | exact kb_1 (by with_reducible assumption) | exact kb_2 (by with_reducible assumption) (by with_reducible assumption) | exact kb_3 (by with_reducible assumption) (by with_reducible assumption) (by with_reducible assumption) | exact kb_4 (by with_reducible assumption) (by with_reducible assumption) (by with_reducible assumption) (by with_reducible assumption) | exact kb_5 (by with_reducible assumption) (by with_reducible assumption) (by with_reducible assumption) (by with_reducible assumption) (by with_reducible assumption) | exact kb_6 (by with_reducible assumption) (by with_reducible assumption) (by with_reducible assumption) (by with_reducible assumption) (by with_reducible assumption)) dX5_kindBy_51
        · skip
          refine lv_iconst (v := nI 3) hx hb dX5_kindBy_36 (by decide) ?_
          refine lv_goto (tgt := 51) hx hb dX5_kindBy_37 (by decide) ?_
          exact retRi hx hb hr hlocks (by first | exact kb_1 (by with_reducible assumption) | exact kb_2 (by with_reducible assumption) (by with_reducible assumption) | exact kb_3 (by with_reducible assumption) (by with_reducible assumption) (by with_reducible assumption) | exact kb_4 (by with_reducible assumption) (by with_reducible assumption) (by with_reducible assumption) (by with_reducible assumption) | exact kb_5 (by with_reducible assumption) (by with_reducible assumption) (by with_reducible assumption) (by with_reducible assumption) (by with_reducible assumption) | exact kb_6 (by with_reducible assumption) (by with_reducible assumption) (by with_reducible assumption) (by with_reducible assumption) (by with_reducible assumption)) dX5_kindBy_51
      · skip
        refine lv_iconst (v := nI 2) hx hb dX5_kindBy_26 (by decide) ?_
        refine lv_goto (tgt := 51) hx hb dX5_kindBy_27 (by decide) ?_
        exact retRi hx hb hr hlocks (by first | exact kb_1 (by with_reducible assumption) | exact kb_2 (by with_reducible assumption) (by with_reducible assumption) | exact kb_3 (by with_reducible assumption) (by with_reducible assumption) (by with_reducible assumption) | exact kb_4 (by with_reducible assumption) (by with_reducible assumption) (by with_reducible assumption) (by with_reducible assumption) | exact kb_5 (by with_reducible assumption) (by with_reducible assumption) (by with_reducible assumption) (by with_reducible assumption) (by with_reducible assumption) | exact kb_6 (by with_reducible assumption) (by with_reducible assumption) (by with_reducible assumption) (by with_reducible assumption) (by with_reducible assumption)) dX5_kindBy_51
    · skip
      refine lv_iconst (v := nI 1) hx hb dX5_kindBy_16 (by decide) ?_
      refine lv_goto (tgt := 51) hx hb dX5_kindBy_17 (by decide) ?_
      exact retRi hx hb hr hlocks (by first | exact kb_1 (by with_reducible assumption) | exact kb_2 (by with_reducible assumption) (by with_reducible assumption) | exact kb_3 (by with_reducible assumption) (by with_reducible assumption) (by with_reducible assumption) | exact kb_4 (by with_reducible assumption) (by with_reducible assumption) (by with_reducible assumption) (by with_reducible assumption) | exact kb_5 (by with_reducible assumption) (by with_reducible assumption) (by with_reducible assumption) (by with_reducible assumption) (by with_reducible assumption) | exact kb_6 (by with_reducible assumption) (by with_reducible assumption) (by with_reducible assumption) (by with_reducible assumption) (by with_reducible assumption)) dX5_kindBy_51
  · skip
    refine lv_iconst (v := nI 0) hx hb dX5_kindBy_6 (by decide) ?_
    refine lv_goto (tgt := 51) hx hb dX5_kindBy_7 (by decide) ?_
    exact retRi hx hb hr hlocks (by first | exact kb_1 (by with_reducible assumption) | exact kb_2 (by with_reducible assumption) (by with_reducible assumption) | exact kb_3 (by with_reducible assumption) (by with_reducible assumption) (by with_reducible assumption) | exact kb_4 (by with_reducible assumption) (by with_reducible assumption) (by with_reducible assumption) (by with_reducible assumption) | exact kb_5 (by with_reducible assumption) (by with_reducible assumption) (by with_reducible assumption) (by with_reducible assumption) (by with_reducible assumption) | exact kb_6 (by with_reducible assumption) (by with_reducible assumption) (by with_reducible assumption) (by with_reducible assumption) (by with_reducible assumption)) dX5_kindBy_51
set_option maxHeartbeats 1000000 in
set_option maxRecDepth 100000 in
theorem k_X5_isGood (l : Launch) (dC : Nat → ClassId) (dI : Nat → Nat → Nat) (cI cZ : ClassId) (p9 : Nat) (x : Int32) (hp9 : p9 < 20) : Met l yX5_isGood wsX5_isGood ({ frames := 1, cells := 0, slots := 0, locals := 25 }) (va_Pc [.int (nI p9), .int (x)] (PR (dC, dI) cI cZ [])) (QRi ((if (gdP p9 x) then nI 1 else nI 0))) 0 0 noF := by
  refine Met.ofW (cc := cX5_isGood) (maxL := 2) (ret := (some .boolean)) (by decide) rfl ?_
  intro p e s m args below meth co s₁ B hml hv
  obtain ⟨rfl, hP, hK⟩ := hv
  have hx := B.exec
  have hb := B.bytes
  have hr := B.returns
  have hts := atoms_spec (ws := wsX5_isGood) B.pre
  have hown : s.vm.findClass RX5 = some m.cls := findClass_of_methodNamed B.named
  have hlocks := B.notSynchronized
  have lc48 := hts (.constantLong RX5 48 (48)) (by decide +kernel)
  have lc50 := hts (.constantLong RX5 50 (57)) (by decide +kernel)
  have hl := lv_entry ([.int (nI p9), .int (x)]) (n := 2) (Nat.le_of_ble_eq_true rfl)
  rw [lg_entry_eq]
  generalize (lg_sl ([.int (nI p9), .int (x)]) ++ List.replicate (2 - (lg_sl ([.int (nI p9), .int (x)])).length) Slot.unset).toArray = ls at hl ⊢
  have hl : lv_has ls 2 [(0, .int (nI p9)), (1, .int (x))] := hl
  refine lv_iload_n hx hb dX5_isGood_0 rfl (lv_at hl 0 rfl) ?_
  refine lv_iconst (v := nI 3) hx hb dX5_isGood_1 (by decide) ?_
  refine w_remN hx hb (by omega) (by omega) (by omega) dX5_isGood_2 ?_
  by_cases w_1 : p9 % 3 = 0
  · skip
    refine lv_lookup (tgt := 28) hx hb dX5_isGood_3 (by decide) (by rw [w_1]; try rfl) (by decide) ?_
    have hz0 : p9 % 3 = 0 := w_1
    refine lv_iload_n hx hb dX5_isGood_28 rfl (lv_at hl 0 rfl) ?_
    refine lv_bipush (v := nI 18) hx hb dX5_isGood_29 (by decide) ?_
    refine w_ci_ge (tgt := 46) hx hb (by omega) (by omega) dX5_isGood_31 (by decide) (fun c_2 => ?_) (fun c_2 => ?_)
    · skip
      refine lv_iconst (v := nI 0) hx hb dX5_isGood_46 (by decide) ?_
      exact retRz hx hb hr hlocks rfl (by first | exact w_ite0 (fun q => absurd ((gd_0 hz0).mp q).1 (by omega)) | exact w_ite0 (fun q => ((gd_0 hz0).mp q).2 c_2) | exact w_ite1 ((gd_0 hz0).mpr ⟨by omega, c_2⟩)) dX5_isGood_47
    · skip
      refine lv_iload_n hx hb dX5_isGood_34 rfl (lv_at hl 1 rfl) ?_
      have hPc := hP.sub (ws' := []) [] rfl
      refine callRi (v := (kb x)) (W.runS (As := [.int (x)]) (rest := []) ⟨hx, hb, hml, hown, hts⟩ (k_X5_kindBy l dC dI cI cZ (x)) (va_cwS 1 hts gX5_isGood_X5_kindBy rfl rfl rfl (by decide +kernel) ⟨Nat.le_of_ble_eq_true rfl, Nat.le_of_ble_eq_true rfl⟩) (preRS hK hPc) rfl rfl hl.1 rfl (lv_room (Nat.le_of_ble_eq_true rfl)) dX5_isGood_35 ⟨Nat.zero_le _, Nat.zero_le _⟩) ?_
      refine lv_iconst (v := -1) hx hb dX5_isGood_38 (by decide) ?_
      refine lv_icmp_eq (tgt := 46) hx hb dX5_isGood_39 (by decide) (fun c_3 => ?_) (fun c_3 => ?_)
      · skip
        refine lv_iconst (v := nI 0) hx hb dX5_isGood_46 (by decide) ?_
        exact retRz hx hb hr hlocks rfl (by first | exact w_ite0 (fun q => absurd ((gd_0 hz0).mp q).1 (by omega)) | exact w_ite0 (fun q => ((gd_0 hz0).mp q).2 c_3) | exact w_ite1 ((gd_0 hz0).mpr ⟨by omega, c_3⟩)) dX5_isGood_47
      · skip
        refine lv_iconst (v := nI 1) hx hb dX5_isGood_42 (by decide) ?_
        refine lv_goto (tgt := 47) hx hb dX5_isGood_43 (by decide) ?_
        exact retRz hx hb hr hlocks rfl (by first | exact w_ite0 (fun q => absurd ((gd_0 hz0).mp q).1 (by omega)) | exact w_ite0 (fun q => ((gd_0 hz0).mp q).2 c_3) | exact w_ite1 ((gd_0 hz0).mpr ⟨by omega, c_3⟩)) dX5_isGood_47
  by_cases w_4 : p9 % 3 = 1
  · skip
    refine lv_lookup (tgt := 48) hx hb dX5_isGood_3 (by decide) (by rw [w_4]; try rfl) (by decide) ?_
    have hz1 : p9 % 3 = 1 := w_4
    refine lv_iload_n hx hb dX5_isGood_48 rfl (lv_at hl 1 rfl) ?_
    refine lv_i2l (v := Int32.toInt64 (x)) hx hb dX5_isGood_49 rfl ?_
    refine lv_ldc2 (v := 48) hx hb hown lc48 dX5_isGood_50 ?_
    refine lv_ldc2 (v := 57) hx hb hown lc50 dX5_isGood_53 ?_
    have hPc := hP.sub (ws' := []) [] rfl
    refine callRi (v := (if ((48 : Int64) ≤ (Int32.toInt64 (x)) ∧ (Int32.toInt64 (x)) ≤ (57 : Int64)) then nI 1 else nI 0)) (W.runS (As := [.long ((Int32.toInt64 (x))), .long ((48 : Int64)), .long ((57 : Int64))]) (rest := []) ⟨hx, hb, hml, hown, hts⟩ (k_X5_in l dC dI cI cZ ((Int32.toInt64 (x))) ((48 : Int64)) ((57 : Int64))) (va_cwS 3 hts gX5_isGood_X5_in rfl rfl rfl (by decide +kernel) ⟨Nat.le_of_ble_eq_true rfl, Nat.le_of_ble_eq_true rfl⟩) (preRS hK hPc) rfl rfl hl.1 rfl (lv_room (Nat.le_of_ble_eq_true rfl)) dX5_isGood_56 ⟨Nat.zero_le _, Nat.zero_le _⟩) ?_
    rw [show ((if ((48 : Int64) ≤ (Int32.toInt64 (x)) ∧ (Int32.toInt64 (x)) ≤ (57 : Int64)) then nI 1 else nI 0) : Int32) = (if (dgP x) then nI 1 else nI 0) from ite_c (in64_dg rfl rfl)]
    exact retRz hx hb hr hlocks w_nb (by exact ite_c (gd_1 hz1).symm) dX5_isGood_59
  have hsw : ¬ nI (p9 % 3) = nI 0 ∧ ¬ nI (p9 % 3) = nI 1 := ⟨fun q => w_1 ((nI_eq (by omega) (by omega)).mp q), fun q => w_4 ((nI_eq (by omega) (by omega)).mp q)⟩
  refine lv_lookup (off := 57) (tgt := 60) hx hb dX5_isGood_3 (by decide) (by exact (lv_osw (a := 0) (o := 25) (d := 57) (r := [(1, 45)]) (hsw.1) rfl).trans ((lv_osw (a := 1) (o := 45) (d := 57) (r := []) (hsw.2) rfl).trans (rfl))) (by decide) ?_
  have hsw1 : ¬ p9 % 3 = 0 := by assumption
  have hsw2 : ¬ p9 % 3 = 1 := by assumption
  refine lv_iload_n hx hb dX5_isGood_60 rfl (lv_at hl 1 rfl) ?_
  refine lv_bipush (v := nI 44) hx hb dX5_isGood_61 (by decide) ?_
  refine lv_icmp_ne (tgt := 76) hx hb dX5_isGood_63 (by decide) (fun c_6 => ?_) (fun c_6 => ?_)
  · skip
    refine lv_iconst (v := nI 0) hx hb dX5_isGood_76 (by decide) ?_
    exact retRz hx hb hr hlocks rfl (by first | exact w_ite0 (fun q => c_6 ((gd_2 hsw1 hsw2).mp q).1) | exact w_ite0 (fun q => absurd ((gd_2 hsw1 hsw2).mp q).2 (by omega)) | exact w_ite1 ((gd_2 hsw1 hsw2).mpr ⟨w_4, by omega⟩)) dX5_isGood_77
  · skip
    refine lv_iload_n hx hb dX5_isGood_66 rfl (lv_at hl 0 rfl) ?_
    refine lv_bipush (v := nI 17) hx hb dX5_isGood_67 (by decide) ?_
    refine w_ci_ge (tgt := 76) hx hb (by omega) (by omega) dX5_isGood_69 (by decide) (fun c_7 => ?_) (fun c_7 => ?_)
    · skip
      refine lv_iconst (v := nI 0) hx hb dX5_isGood_76 (by decide) ?_
      exact retRz hx hb hr hlocks rfl (by first | exact w_ite0 (fun q => c_7 ((gd_2 hsw1 hsw2).mp q).1) | exact w_ite0 (fun q => absurd ((gd_2 hsw1 hsw2).mp q).2 (by omega)) | exact w_ite1 ((gd_2 hsw1 hsw2).mpr ⟨c_6, by omega⟩)) dX5_isGood_77
    · skip
      refine lv_iconst (v := nI 1) hx hb dX5_isGood_72 (by decide) ?_
      refine lv_goto (tgt := 77) hx hb dX5_isGood_73 (by decide) ?_
      exact retRz hx hb hr hlocks rfl (by first | exact w_ite0 (fun q => c_7 ((gd_2 hsw1 hsw2).mp q).1) | exact w_ite0 (fun q => absurd ((gd_2 hsw1 hsw2).mp q).2 (by omega)) | exact w_ite1 ((gd_2 hsw1 hsw2).mpr ⟨c_6, by omega⟩)) dX5_isGood_77
