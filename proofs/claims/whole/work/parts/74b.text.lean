set_option maxHeartbeats 1000000 in
set_option maxRecDepth 100000 in
theorem k_X2_firstMisfit (l : Launch) (dC : Nat → ClassId) (dI : Nat → Nat → Nat) (cI cZ : ClassId) (ak av : Nat → Nat) (g0 g1 : Nat) (pg : Nat → Int32) (pn : Nat) (hp : pn ≤ 20) (hG : GP pg) : Met l yX2_firstMisfit wsX2_firstMisfit ({ frames := 5, cells := 0, slots := 0, locals := 113 }) (va_Pc [.ref g0] (PRT (dC, dI) cI cZ ak av [(g0, .inr (1, [.ref g1, .int (nI pn)])), (g1, .inl (cI, 20, .inl (pg)))])) (QRi (nI (mf pg pn 0))) 0 0 noF := by
  refine Met.ofW (cc := cX2_firstMisfit) (maxL := 2) (ret := (some .int)) (by decide) rfl ?_
  intro p e s m args below meth co s₁ B hml hv
  obtain ⟨rfl, ⟨hP, hK⟩, hE, hZ, hQ⟩ := hv
  have hS : va_S noF s.heap s.heap [] := va_S.rf
  have hx := B.exec
  have hb := B.bytes
  have hr := B.returns
  have hts := atoms_spec (ws := wsX2_firstMisfit) B.pre
  have hown : s.vm.findClass RX2 = some m.cls := findClass_of_methodNamed B.named
  have hlocks := B.notSynchronized
  have inX2 : ∀ w ∈ u_ws RX2 TX2 2, w ∈ wsX2_firstMisfit := by decide +kernel
  have lf13 := hts (.fieldLink RX2 13 "ThursdayRungs$Page" "size" "I") (by decide +kernel)
  have hl := lv_entry ([.ref g0]) (n := 2) (Nat.le_of_ble_eq_true rfl)
  rw [lg_entry_eq]
  generalize (lg_sl ([.ref g0]) ++ List.replicate (2 - (lg_sl ([.ref g0])).length) Slot.unset).toArray = ls at hl ⊢
  have hl : lv_has ls 2 [(0, .ref g0)] := hl
  refine lv_iconst (v := nI 0) hx hb dX2_firstMisfit_0 (by decide) ?_
  refine lv_istore_n (lv' := [(1, .int (nI 0)), (0, .ref g0)]) hx hb dX2_firstMisfit_1 rfl hl (by decide) rfl (fun ls hl => ?_)
  have lp2 : ∀ (fuel : Nat) (k : Nat), pn - k < fuel → (k ≤ pn) → (mf pg pn 0 = mf pg (pn - k) k) → ∀ (ls : Array Slot), lv_has ls 2 [(0, .ref g0), (1, .int (nI k))] → W p l e (headSpec wsX2_firstMisfit ({ frames := 5, cells := 0, slots := 0, locals := 113 })).room s m ([.ref g0] : List Value).toArray below meth co s.heap [] 0 0 (MQ below (QRi (nI (mf pg pn 0))) ([.ref g0] : List Value).toArray s 0 0 noF) (F0 m 2 ls []) := by
    intro fuel
    induction fuel with
    | zero => intro k h0; exact absurd h0 (Nat.not_lt_zero _)
    | succ fuel ih2 =>
      intro k hm_1 hk hL ls hl
      refine lv_iload_n hx hb dX2_firstMisfit_2 rfl (lv_at hl 1 rfl) ?_
      refine lv_aload_n hx hb dX2_firstMisfit_3 rfl (lv_at hl 0 rfl) ?_
      refine va_get (D := (dC, dI)) (ci := 1) (v := .int (nI pn)) (C := RX2) (T := TX2) (N := 2) hx hb hts inX2 hown hK hP 0 rfl rfl 1 (by decide) lf13 (fun _ h9 => h9) rfl dX2_firstMisfit_4 ?_
      refine w_ci_ge (tgt := 26) hx hb (by omega) (by omega) dX2_firstMisfit_7 (by decide) (fun c_2 => ?_) (fun c_2 => ?_)
      · skip
        refine lv_aload_n hx hb dX2_firstMisfit_26 rfl (lv_at hl 0 rfl) ?_
        refine va_get (D := (dC, dI)) (ci := 1) (v := .int (nI pn)) (C := RX2) (T := TX2) (N := 2) hx hb hts inX2 hown hK hP 0 rfl rfl 1 (by decide) lf13 (fun _ h9 => h9) rfl dX2_firstMisfit_27 ?_
        exact retRi hx hb hr hlocks (by rw [hL, show pn - k = 0 by omega, show k = pn by omega]; rfl) dX2_firstMisfit_30
      · skip
        refine lv_aload_n hx hb dX2_firstMisfit_10 rfl (lv_at hl 0 rfl) ?_
        refine lv_iload_n hx hb dX2_firstMisfit_11 rfl (lv_at hl 1 rfl) ?_
        have hPc := hP.sub (ws' := [(g0, .inr (1, [.ref g1, .int (nI pn)])), (g1, .inl (cI, 20, .inl (pg)))]) [0, 1] rfl
        refine callRi (v := (if (gdP k (pg k)) then nI 1 else nI 0)) (W.runV (As := [.int (nI k)]) (rest := []) ⟨hx, hb, hml, hown, hts⟩ (k_X2_fits l dC dI cI cZ ak av g0 g1 (pg) (pn) (k) (by first | omega | with_reducible assumption | (simp; omega)) (by first | omega | with_reducible assumption | (simp; omega))) (cwV 1 hts gX2_firstMisfit_X2_fits rfl rfl rfl (by decide +kernel) ⟨Nat.le_of_ble_eq_true rfl, Nat.le_of_ble_eq_true rfl⟩) (preTV (q := (RX2, TX2, 2)) (ci := 1) hK hPc rfl rfl hE hZ hQ hS) rfl rfl hl.1 rfl (lv_room (Nat.le_of_ble_eq_true rfl)) dX2_firstMisfit_12 ⟨Nat.zero_le _, Nat.zero_le _⟩) ?_
        refine w_ifneB (tgt := 20) hx hb dX2_firstMisfit_15 (by decide) (fun c_3 => ?_) (fun c_3 => ?_)
        · skip
          refine lv_iinc (v := nI (k + 1)) (lv' := [(1, .int (nI (k + 1))), (0, .ref g0)]) hx hb dX2_firstMisfit_20 hl (k := 1) rfl w_inc1 (by decide) rfl (fun ls hl => ?_)
          refine lv_goto (tgt := 2) hx hb dX2_firstMisfit_23 (by decide) ?_
          exact ih2 (k + 1) (by omega) (by first | omega | with_reducible assumption | (first | with_reducible rfl | exact (if_pos (c_3)).symm | exact (if_neg (c_3)).symm | (simp [hp, hG, hk, hL, c_2, c_3]; done) | omega | rfl)) (by rw [hL, show pn - k = (pn - (k + 1)) + 1 by omega, mf, if_pos c_3]) ls (lv_sub hl [1, 0] rfl)
        · skip
          refine lv_iload_n hx hb dX2_firstMisfit_18 rfl (lv_at hl 1 rfl) ?_
          exact retRi hx hb hr hlocks (by rw [hL, show pn - k = (pn - (k + 1)) + 1 by omega, mf, if_neg c_3]) dX2_firstMisfit_19
  exact lp2 (pn - 0 + 1) (0) (Nat.lt_succ_self _) (by first | omega | with_reducible assumption | (first | with_reducible rfl | exact (if_pos (hG)).symm | exact (if_neg (hG)).symm | (simp [hp, hG]; done) | omega | rfl)) (by rfl) ls (lv_sub hl [1, 0] rfl)
set_option maxHeartbeats 1000000 in
set_option maxRecDepth 100000 in
theorem k_X2_isSchool (l : Launch) (dC : Nat → ClassId) (dI : Nat → Nat → Nat) (cI cZ : ClassId) (ak av : Nat → Nat) (g0 g1 : Nat) (pg : Nat → Int32) (pn : Nat) (hp : pn ≤ 20) (hG : GP pg) : Met l yX2_isSchool wsX2_isSchool ({ frames := 6, cells := 0, slots := 0, locals := 134 }) (va_Pc [.ref g0] (PRT (dC, dI) cI cZ ak av [(g0, .inr (1, [.ref g1, .int (nI pn)])), (g1, .inl (cI, 20, .inl (pg)))])) (QRi ((if (scP pg pn) then nI 1 else nI 0))) 0 0 noF := by
  refine Met.ofW (cc := cX2_isSchool) (maxL := 1) (ret := (some .boolean)) (by decide) rfl ?_
  intro p e s m args below meth co s₁ B hml hv
  obtain ⟨rfl, ⟨hP, hK⟩, hE, hZ, hQ⟩ := hv
  have hS : va_S noF s.heap s.heap [] := va_S.rf
  have hx := B.exec
  have hb := B.bytes
  have hr := B.returns
  have hts := atoms_spec (ws := wsX2_isSchool) B.pre
  have hown : s.vm.findClass RX2 = some m.cls := findClass_of_methodNamed B.named
  have hlocks := B.notSynchronized
  have inX2 : ∀ w ∈ u_ws RX2 TX2 2, w ∈ wsX2_isSchool := by decide +kernel
  have lf13 := hts (.fieldLink RX2 13 "ThursdayRungs$Page" "size" "I") (by decide +kernel)
  have hl := lv_entry ([.ref g0]) (n := 1) (Nat.le_of_ble_eq_true rfl)
  rw [lg_entry_eq]
  generalize (lg_sl ([.ref g0]) ++ List.replicate (1 - (lg_sl ([.ref g0])).length) Slot.unset).toArray = ls at hl ⊢
  have hl : lv_has ls 1 [(0, .ref g0)] := hl
  refine lv_aload_n hx hb dX2_isSchool_0 rfl (lv_at hl 0 rfl) ?_
  refine va_get (D := (dC, dI)) (ci := 1) (v := .int (nI pn)) (C := RX2) (T := TX2) (N := 2) hx hb hts inX2 hown hK hP 0 rfl rfl 1 (by decide) lf13 (fun _ h9 => h9) rfl dX2_isSchool_1 ?_
  refine lv_iconst (v := nI 3) hx hb dX2_isSchool_4 (by decide) ?_
  refine w_remN hx hb (by omega) (by omega) (by omega) dX2_isSchool_5 ?_
  refine lv_iconst (v := nI 2) hx hb dX2_isSchool_6 (by decide) ?_
  refine w_ci_ne (tgt := 33) hx hb (by omega) (by omega) dX2_isSchool_7 (by decide) (fun c_1 => ?_) (fun c_1 => ?_)
  · skip
    refine lv_iconst (v := nI 0) hx hb dX2_isSchool_33 (by decide) ?_
    exact retRz hx hb hr hlocks rfl (by first | exact w_ite1 (scP_iff.mpr ⟨by omega, by omega, by omega⟩) | exact w_ite0 (fun q => absurd (scP_iff.mp q) (by omega))) dX2_isSchool_34
  · skip
    refine lv_aload_n hx hb dX2_isSchool_10 rfl (lv_at hl 0 rfl) ?_
    have hPc := hP.sub (ws' := [(g0, .inr (1, [.ref g1, .int (nI pn)])), (g1, .inl (cI, 20, .inl (pg)))]) [0, 1] rfl
    refine callRi (v := nI ((pn + 1) / 3)) (W.runV (As := []) (rest := []) ⟨hx, hb, hml, hown, hts⟩ (k_X2_children l dC dI cI cZ g0 g1 (pg) (pn) (by first | omega | with_reducible assumption | (simp; omega))) (cwV 0 hts gX2_isSchool_X2_children rfl rfl rfl (by decide +kernel) ⟨Nat.le_of_ble_eq_true rfl, Nat.le_of_ble_eq_true rfl⟩) (preRV (q := (RX2, TX2, 2)) (ci := 1) hK hPc rfl rfl) rfl rfl hl.1 rfl (lv_room (Nat.le_of_ble_eq_true rfl)) dX2_isSchool_11 ⟨Nat.zero_le _, Nat.zero_le _⟩) ?_
    refine lv_iconst (v := nI 2) hx hb dX2_isSchool_14 (by decide) ?_
    refine w_ci_lt (tgt := 33) hx hb (by omega) (by omega) dX2_isSchool_15 (by decide) (fun c_2 => ?_) (fun c_2 => ?_)
    · skip
      refine lv_iconst (v := nI 0) hx hb dX2_isSchool_33 (by decide) ?_
      exact retRz hx hb hr hlocks rfl (by first | exact w_ite1 (scP_iff.mpr ⟨by omega, by omega, by omega⟩) | exact w_ite0 (fun q => absurd (scP_iff.mp q) (by omega))) dX2_isSchool_34
    · skip
      refine lv_aload_n hx hb dX2_isSchool_18 rfl (lv_at hl 0 rfl) ?_
      have hPc := hP.sub (ws' := [(g0, .inr (1, [.ref g1, .int (nI pn)])), (g1, .inl (cI, 20, .inl (pg)))]) [0, 1] rfl
      refine callRi (v := nI (mf pg pn 0)) (W.runV (As := []) (rest := []) ⟨hx, hb, hml, hown, hts⟩ (k_X2_firstMisfit l dC dI cI cZ ak av g0 g1 (pg) (pn) (by first | omega | with_reducible assumption | (simp; omega)) (by first | omega | with_reducible assumption | (simp; omega))) (cwV 0 hts gX2_isSchool_X2_firstMisfit rfl rfl rfl (by decide +kernel) ⟨Nat.le_of_ble_eq_true rfl, Nat.le_of_ble_eq_true rfl⟩) (preTV (q := (RX2, TX2, 2)) (ci := 1) hK hPc rfl rfl hE hZ hQ hS) rfl rfl hl.1 rfl (lv_room (Nat.le_of_ble_eq_true rfl)) dX2_isSchool_19 ⟨Nat.zero_le _, Nat.zero_le _⟩) ?_
      have hml18 := mf_le (pg := pg) pn 0
      refine lv_aload_n hx hb dX2_isSchool_22 rfl (lv_at hl 0 rfl) ?_
      refine va_get (D := (dC, dI)) (ci := 1) (v := .int (nI pn)) (C := RX2) (T := TX2) (N := 2) hx hb hts inX2 hown hK hP 0 rfl rfl 1 (by decide) lf13 (fun _ h9 => h9) rfl dX2_isSchool_23 ?_
      refine w_ci_ne (tgt := 33) hx hb (by omega) (by omega) dX2_isSchool_26 (by decide) (fun c_3 => ?_) (fun c_3 => ?_)
      · skip
        refine lv_iconst (v := nI 0) hx hb dX2_isSchool_33 (by decide) ?_
        exact retRz hx hb hr hlocks rfl (by first | exact w_ite1 (scP_iff.mpr ⟨by omega, by omega, by omega⟩) | exact w_ite0 (fun q => absurd (scP_iff.mp q) (by omega))) dX2_isSchool_34
      · skip
        refine lv_iconst (v := nI 1) hx hb dX2_isSchool_29 (by decide) ?_
        refine lv_goto (tgt := 34) hx hb dX2_isSchool_30 (by decide) ?_
        exact retRz hx hb hr hlocks rfl (by first | exact w_ite1 (scP_iff.mpr ⟨by omega, by omega, by omega⟩) | exact w_ite0 (fun q => absurd (scP_iff.mp q) (by omega))) dX2_isSchool_34
