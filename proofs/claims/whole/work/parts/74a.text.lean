set_option maxHeartbeats 1000000 in
set_option maxRecDepth 100000 in
theorem k_X2_kindOf (l : Launch) (dC : Nat → ClassId) (dI : Nat → Nat → Nat) (cI cZ : ClassId) (ak av : Nat → Nat) (g0 g1 : Nat) (pg : Nat → Int32) (pn : Nat) (c : Nat) (hc : c < 6) (hG : GP pg) : Met l yX2_kindOf wsX2_kindOf ({ frames := 4, cells := 0, slots := 0, locals := 91 }) (va_Pc [.ref g0, .int (nI c)] (PRT (dC, dI) cI cZ ak av [(g0, .inr (1, [.ref g1, .int (nI pn)])), (g1, .inl (cI, 20, .inl (pg)))])) (QRi ((kb (pg (3 * c))))) 0 0 noF := by
  refine Met.ofW (cc := cX2_kindOf) (maxL := 2) (ret := (some .int)) (by decide) rfl ?_
  intro p e s m args below meth co s₁ B hml hv
  obtain ⟨rfl, ⟨hP, hK⟩, hE, hZ, hQ⟩ := hv
  have hS : va_S noF s.heap s.heap [] := va_S.rf
  have hx := B.exec
  have hb := B.bytes
  have hr := B.returns
  have hts := atoms_spec (ws := wsX2_kindOf) B.pre
  have hown : s.vm.findClass RX2 = some m.cls := findClass_of_methodNamed B.named
  have hlocks := B.notSynchronized
  have inX2 : ∀ w ∈ u_ws RX2 TX2 2, w ∈ wsX2_kindOf := by decide +kernel
  have lf9 := hts (.fieldLink RX2 9 "ThursdayRungs$Page" "codes" "[I") (by decide +kernel)
  have hl := lv_entry ([.ref g0, .int (nI c)]) (n := 2) (Nat.le_of_ble_eq_true rfl)
  rw [lg_entry_eq]
  generalize (lg_sl ([.ref g0, .int (nI c)]) ++ List.replicate (2 - (lg_sl ([.ref g0, .int (nI c)])).length) Slot.unset).toArray = ls at hl ⊢
  have hl : lv_has ls 2 [(0, .ref g0), (1, .int (nI c))] := hl
  refine va_ldcS hx hb hown hQ dX2_kindOf_0 ?_
  refine lv_aload_n hx hb dX2_kindOf_2 rfl (lv_at hl 0 rfl) ?_
  refine va_get (D := (dC, dI)) (ci := 1) (v := .ref g1) (C := RX2) (T := TX2) (N := 2) hx hb hts inX2 hown hK hP 0 rfl rfl 0 (by decide) lf9 (fun _ h9 => h9) rfl dX2_kindOf_3 ?_
  refine lv_iconst (v := nI 3) hx hb dX2_kindOf_6 (by decide) ?_
  refine lv_iload_n hx hb dX2_kindOf_7 rfl (lv_at hl 1 rfl) ?_
  refine w_mulN hx hb dX2_kindOf_8 ?_
  refine w_iald (k := 3 * c) hx hb hK hP 1 0 rfl rfl (by omega) (by decide) dX2_kindOf_9 ?_
  obtain ⟨q9, hq9, e9⟩ := hG (3 * c)
  rw [e9]
  refine lv_i2c (v := ((nI q9).toUInt32 % 65536).toInt32) hx hb dX2_kindOf_10 rfl ?_
  rw [show (((nI q9).toUInt32 % 65536).toInt32 : Int32) = nI q9 from i2c_nI hq9]
  refine callRi (v := (kb (nI q9))) (W.runV (As := [.int (nI q9)]) (rest := []) ⟨hx, hb, hml, hown, hts⟩ (k_J0_indexOf_0f7a4 l dC dI cI cZ ak av (q9) (by first | omega | with_reducible assumption | (simp; omega))) (cwV 1 hts gX2_kindOf_J0_indexOf_0f7a4 rfl rfl rfl (by decide +kernel) ⟨Nat.le_of_ble_eq_true rfl, Nat.le_of_ble_eq_true rfl⟩) (preJV hE hZ hS) rfl rfl hl.1 rfl (lv_room (Nat.le_of_ble_eq_true rfl)) dX2_kindOf_11 ⟨Nat.zero_le _, Nat.zero_le _⟩) ?_
  exact retRi hx hb hr hlocks (by rfl) dX2_kindOf_14
set_option maxHeartbeats 1000000 in
set_option maxRecDepth 100000 in
theorem k_X2_fits (l : Launch) (dC : Nat → ClassId) (dI : Nat → Nat → Nat) (cI cZ : ClassId) (ak av : Nat → Nat) (g0 g1 : Nat) (pg : Nat → Int32) (pn : Nat) (p9 : Nat) (hp9 : p9 < 20) (hG : GP pg) : Met l yX2_fits wsX2_fits ({ frames := 4, cells := 0, slots := 0, locals := 91 }) (va_Pc [.ref g0, .int (nI p9)] (PRT (dC, dI) cI cZ ak av [(g0, .inr (1, [.ref g1, .int (nI pn)])), (g1, .inl (cI, 20, .inl (pg)))])) (QRi ((if (gdP p9 (pg p9)) then nI 1 else nI 0))) 0 0 noF := by
  refine Met.ofW (cc := cX2_fits) (maxL := 3) (ret := (some .boolean)) (by decide) rfl ?_
  intro p e s m args below meth co s₁ B hml hv
  obtain ⟨rfl, ⟨hP, hK⟩, hE, hZ, hQ⟩ := hv
  have hS : va_S noF s.heap s.heap [] := va_S.rf
  have hx := B.exec
  have hb := B.bytes
  have hr := B.returns
  have hts := atoms_spec (ws := wsX2_fits) B.pre
  have hown : s.vm.findClass RX2 = some m.cls := findClass_of_methodNamed B.named
  have hlocks := B.notSynchronized
  have inX2 : ∀ w ∈ u_ws RX2 TX2 2, w ∈ wsX2_fits := by decide +kernel
  have lf9 := hts (.fieldLink RX2 9 "ThursdayRungs$Page" "codes" "[I") (by decide +kernel)
  have hl := lv_entry ([.ref g0, .int (nI p9)]) (n := 3) (Nat.le_of_ble_eq_true rfl)
  rw [lg_entry_eq]
  generalize (lg_sl ([.ref g0, .int (nI p9)]) ++ List.replicate (3 - (lg_sl ([.ref g0, .int (nI p9)])).length) Slot.unset).toArray = ls at hl ⊢
  have hl : lv_has ls 3 [(0, .ref g0), (1, .int (nI p9))] := hl
  refine lv_aload_n hx hb dX2_fits_0 rfl (lv_at hl 0 rfl) ?_
  refine va_get (D := (dC, dI)) (ci := 1) (v := .ref g1) (C := RX2) (T := TX2) (N := 2) hx hb hts inX2 hown hK hP 0 rfl rfl 0 (by decide) lf9 (fun _ h9 => h9) rfl dX2_fits_1 ?_
  refine lv_iload_n hx hb dX2_fits_4 rfl (lv_at hl 1 rfl) ?_
  refine w_iald (k := p9) hx hb hK hP 1 0 rfl rfl (by omega) (by decide) dX2_fits_5 ?_
  refine lv_istore_n (lv' := [(2, .int (pg p9)), (0, .ref g0), (1, .int (nI p9))]) hx hb dX2_fits_6 rfl hl (by decide) rfl (fun ls hl => ?_)
  refine lv_iload_n hx hb dX2_fits_7 rfl (lv_at hl 2 rfl) ?_
  refine lv_iconst (v := nI 3) hx hb dX2_fits_8 (by decide) ?_
  refine w_remN hx hb (by omega) (by omega) (by omega) dX2_fits_9 ?_
  by_cases w_1 : p9 % 3 = 0
  · skip
    refine lv_lookup (tgt := 36) hx hb dX2_fits_10 (by decide) (by rw [w_1]; try rfl) (by decide) ?_
    have hz0 : p9 % 3 = 0 := w_1
    refine lv_iload_n hx hb dX2_fits_36 rfl (lv_at hl 2 rfl) ?_
    refine lv_iconst (v := nI 3) hx hb dX2_fits_37 (by decide) ?_
    refine w_divN hx hb (by omega) (by omega) (by omega) dX2_fits_38 ?_
    refine lv_bipush (v := nI 6) hx hb dX2_fits_39 (by decide) ?_
    refine w_ci_ge (tgt := 58) hx hb (by omega) (by omega) dX2_fits_41 (by decide) (fun c_2 => ?_) (fun c_2 => ?_)
    · skip
      refine lv_iconst (v := nI 0) hx hb dX2_fits_58 (by decide) ?_
      exact retRz hx hb hr hlocks rfl (by first | exact w_ite1 ((gd_0 hz0).mpr ⟨by omega, by rw [e9]; exact kb_ge c_2⟩) | exact w_ite0 (fun q => ((gd_0 hz0).mp q).2 (by rw [e9]; exact kb_lt c_2)) | exact w_ite0 (fun q => absurd ((gd_0 hz0).mp q).1 (by omega))) dX2_fits_59
    · skip
      obtain ⟨q9, hq9, e9⟩ := hG p9
      have hl := lv_cong hl (show ([(2, .int (pg p9)), (0, .ref g0), (1, .int (nI p9))] : List (Nat × Value)) = [(2, .int (nI q9)), (0, .ref g0), (1, .int (nI p9))] by rw [e9])
      refine va_ldcS hx hb hown hQ dX2_fits_44 ?_
      refine lv_iload_n hx hb dX2_fits_46 rfl (lv_at hl 0 rfl) ?_
      refine lv_i2c (v := ((nI q9).toUInt32 % 65536).toInt32) hx hb dX2_fits_47 rfl ?_
      rw [show (((nI q9).toUInt32 % 65536).toInt32 : Int32) = nI q9 from i2c_nI hq9]
      refine callRi (v := (kb (nI q9))) (W.runV (As := [.int (nI q9)]) (rest := []) ⟨hx, hb, hml, hown, hts⟩ (k_J0_indexOf_0f7a4 l dC dI cI cZ ak av (q9) (by first | omega | with_reducible assumption | (simp; omega))) (cwV 1 hts gX2_fits_J0_indexOf_0f7a4 rfl rfl rfl (by decide +kernel) ⟨Nat.le_of_ble_eq_true rfl, Nat.le_of_ble_eq_true rfl⟩) (preJV hE hZ hS) rfl rfl hl.1 rfl (lv_room (Nat.le_of_ble_eq_true rfl)) dX2_fits_48 ⟨Nat.zero_le _, Nat.zero_le _⟩) ?_
      refine lv_if_lt (tgt := 58) hx hb dX2_fits_51 (by decide) (fun c_3 => ?_) (fun c_3 => ?_)
      · skip
        refine lv_iconst (v := nI 0) hx hb dX2_fits_58 (by decide) ?_
        exact retRz hx hb hr hlocks rfl (by first | exact w_ite1 ((gd_0 hz0).mpr ⟨by omega, by rw [e9]; exact kb_ge c_3⟩) | exact w_ite0 (fun q => ((gd_0 hz0).mp q).2 (by rw [e9]; exact kb_lt c_3)) | exact w_ite0 (fun q => absurd ((gd_0 hz0).mp q).1 (by omega))) dX2_fits_59
      · skip
        refine lv_iconst (v := nI 1) hx hb dX2_fits_54 (by decide) ?_
        refine lv_goto (tgt := 59) hx hb dX2_fits_55 (by decide) ?_
        exact retRz hx hb hr hlocks rfl (by first | exact w_ite1 ((gd_0 hz0).mpr ⟨by omega, by rw [e9]; exact kb_ge c_3⟩) | exact w_ite0 (fun q => ((gd_0 hz0).mp q).2 (by rw [e9]; exact kb_lt c_3)) | exact w_ite0 (fun q => absurd ((gd_0 hz0).mp q).1 (by omega))) dX2_fits_59
  by_cases w_4 : p9 % 3 = 1
  · skip
    refine lv_lookup (tgt := 60) hx hb dX2_fits_10 (by decide) (by rw [w_4]; try rfl) (by decide) ?_
    have hz1 : p9 % 3 = 1 := w_4
    have hsw1 : ¬ p9 % 3 = 0 := by omega
    refine lv_iload_n hx hb dX2_fits_60 rfl (lv_at hl 0 rfl) ?_
    refine lv_bipush (v := nI 48) hx hb dX2_fits_61 (by decide) ?_
    refine lv_icmp_lt (tgt := 76) hx hb dX2_fits_63 (by decide) (fun c_5 => ?_) (fun c_5 => ?_)
    · skip
      refine lv_iconst (v := nI 0) hx hb dX2_fits_76 (by decide) ?_
      exact retRz hx hb hr hlocks rfl (by first | exact w_ite1 ((gd_1 hz1).mpr ⟨w_4, Int32.not_lt.mp c_5⟩) | exact w_ite0 (fun q => ((gd_1 hz1).mp q).1 c_5) | exact w_ite0 (fun q => absurd c_5 (Int32.not_lt.mpr ((gd_1 hz1).mp q).2))) dX2_fits_77
    · skip
      refine lv_iload_n hx hb dX2_fits_66 rfl (lv_at hl 0 rfl) ?_
      refine lv_bipush (v := nI 57) hx hb dX2_fits_67 (by decide) ?_
      refine lv_icmp_gt (tgt := 76) hx hb dX2_fits_69 (by decide) (fun c_6 => ?_) (fun c_6 => ?_)
      · skip
        refine lv_iconst (v := nI 0) hx hb dX2_fits_76 (by decide) ?_
        exact retRz hx hb hr hlocks rfl (by first | exact w_ite1 ((gd_1 hz1).mpr ⟨c_5, Int32.not_lt.mp c_6⟩) | exact w_ite0 (fun q => ((gd_1 hz1).mp q).1 c_6) | exact w_ite0 (fun q => absurd c_6 (Int32.not_lt.mpr ((gd_1 hz1).mp q).2))) dX2_fits_77
      · skip
        refine lv_iconst (v := nI 1) hx hb dX2_fits_72 (by decide) ?_
        refine lv_goto (tgt := 77) hx hb dX2_fits_73 (by decide) ?_
        exact retRz hx hb hr hlocks rfl (by first | exact w_ite1 ((gd_1 hz1).mpr ⟨c_5, Int32.not_lt.mp c_6⟩) | exact w_ite0 (fun q => ((gd_1 hz1).mp q).1 c_6) | exact w_ite0 (fun q => absurd c_6 (Int32.not_lt.mpr ((gd_1 hz1).mp q).2))) dX2_fits_77
  have hsw : ¬ nI (p9 % 3) = nI 0 ∧ ¬ nI (p9 % 3) = nI 1 := ⟨fun q => w_1 ((nI_eq (by omega) (by omega)).mp q), fun q => w_4 ((nI_eq (by omega) (by omega)).mp q)⟩
  refine lv_lookup (off := 68) (tgt := 78) hx hb dX2_fits_10 (by decide) (by exact (lv_osw (a := 0) (o := 26) (d := 68) (r := [(1, 50)]) (hsw.1) rfl).trans ((lv_osw (a := 1) (o := 50) (d := 68) (r := []) (hsw.2) rfl).trans (rfl))) (by decide) ?_
  have hsw1 : ¬ p9 % 3 = 0 := by assumption
  have hsw2 : ¬ p9 % 3 = 1 := by assumption
  refine lv_iload_n hx hb dX2_fits_78 rfl (lv_at hl 2 rfl) ?_
  refine lv_iconst (v := nI 3) hx hb dX2_fits_79 (by decide) ?_
  refine w_divN hx hb (by omega) (by omega) (by omega) dX2_fits_80 ?_
  refine lv_iconst (v := nI 5) hx hb dX2_fits_81 (by decide) ?_
  refine w_ci_ge (tgt := 95) hx hb (by omega) (by omega) dX2_fits_82 (by decide) (fun c_7 => ?_) (fun c_7 => ?_)
  · skip
    refine lv_iconst (v := nI 0) hx hb dX2_fits_95 (by decide) ?_
    exact retRz hx hb hr hlocks rfl (by first | exact w_ite1 ((gd_2 hsw1 hsw2).mpr ⟨c_7, by omega⟩) | exact w_ite0 (fun q => c_7 ((gd_2 hsw1 hsw2).mp q).1) | exact w_ite0 (fun q => absurd ((gd_2 hsw1 hsw2).mp q).2 (by omega))) dX2_fits_96
  · skip
    refine lv_iload_n hx hb dX2_fits_85 rfl (lv_at hl 0 rfl) ?_
    refine lv_bipush (v := nI 44) hx hb dX2_fits_86 (by decide) ?_
    refine lv_icmp_ne (tgt := 95) hx hb dX2_fits_88 (by decide) (fun c_8 => ?_) (fun c_8 => ?_)
    · skip
      refine lv_iconst (v := nI 0) hx hb dX2_fits_95 (by decide) ?_
      exact retRz hx hb hr hlocks rfl (by first | exact w_ite1 ((gd_2 hsw1 hsw2).mpr ⟨c_8, by omega⟩) | exact w_ite0 (fun q => c_8 ((gd_2 hsw1 hsw2).mp q).1) | exact w_ite0 (fun q => absurd ((gd_2 hsw1 hsw2).mp q).2 (by omega))) dX2_fits_96
    · skip
      refine lv_iconst (v := nI 1) hx hb dX2_fits_91 (by decide) ?_
      refine lv_goto (tgt := 96) hx hb dX2_fits_92 (by decide) ?_
      exact retRz hx hb hr hlocks rfl (by first | exact w_ite1 ((gd_2 hsw1 hsw2).mpr ⟨c_8, by omega⟩) | exact w_ite0 (fun q => c_8 ((gd_2 hsw1 hsw2).mp q).1) | exact w_ite0 (fun q => absurd ((gd_2 hsw1 hsw2).mp q).2 (by omega))) dX2_fits_96
