set_option maxHeartbeats 1000000 in
set_option maxRecDepth 100000 in
theorem k_X5_teachesOf (l : Launch) (dC : Nat → ClassId) (dI : Nat → Nat → Nat) (cI cZ : ClassId) (m0 m1 m2 m3 m4 m5 m6 m7 : Nat) (mp mr mh mt mv mkr mkh : Nat → Int32) (pn n h sdn kh : Nat) (th tt sr tp ks kth ktt : Int32) (hs : Int64) (c : Nat) (r : Int32) (hc : c < 6) (hS : GS (rS mr)) (hr2 : ∃ q, q < 12 ∧ r = nI q) : Met l yX5_teachesOf wsX5_teachesOf ({ frames := 1, cells := 0, slots := 0, locals := 23 }) (va_Pc [.ref m0, .int (nI c), .int (r)] (PR (dC, dI) cI cZ [(m0, .inr (4, [.ref m1, .int (nI pn), .int (nI n), .int (th), .int (tt), .int (sr), .ref m2, .int (tp), .int (nI h), .ref m3, .ref m4, .int (nI sdn), .ref m5, .int (ks), .int (kth), .int (ktt), .int (nI kh), .ref m6, .ref m7, .long (hs)])), (m1, .inl (cI, 20, .inl (mp))), (m2, .inl (cI, 24, .inl (mr))), (m3, .inl (cI, 24, .inl (mh))), (m4, .inl (cI, 12, .inl (mt))), (m5, .inl (cI, 24, .inl (mv))), (m6, .inl (cI, 24, .inl (mkr))), (m7, .inl (cI, 24, .inl (mkh)))])) (QRi ((tb (rK mr c) (rS mr c) r))) 0 0 noF := by
  refine Met.ofW (cc := cX5_teachesOf) (maxL := 3) (ret := (some .int)) (by decide) rfl ?_
  intro p e s m args below meth co s₁ B hml hv
  obtain ⟨rfl, hP, hK⟩ := hv
  have hx := B.exec
  have hb := B.bytes
  have hr := B.returns
  have hts := atoms_spec (ws := wsX5_teachesOf) B.pre
  have hown : s.vm.findClass RX5 = some m.cls := findClass_of_methodNamed B.named
  have hlocks := B.notSynchronized
  have inX5 : ∀ w ∈ u_ws RX5 TX5 20, w ∈ wsX5_teachesOf := by decide +kernel
  have lf13 := hts (.fieldLink RX5 13 "ThursdayRungsModel" "rows" "[I") (by decide +kernel)
  have hl := lv_entry ([.ref m0, .int (nI c), .int (r)]) (n := 3) (Nat.le_of_ble_eq_true rfl)
  rw [lg_entry_eq]
  generalize (lg_sl ([.ref m0, .int (nI c), .int (r)]) ++ List.replicate (3 - (lg_sl ([.ref m0, .int (nI c), .int (r)])).length) Slot.unset).toArray = ls at hl ⊢
  have hl : lv_has ls 3 [(0, .ref m0), (1, .int (nI c)), (2, .int (r))] := hl
  refine lv_aload_n hx hb dX5_teachesOf_0 rfl (lv_at hl 0 rfl) ?_
  refine va_get (D := (dC, dI)) (ci := 4) (v := .ref m2) (C := RX5) (T := TX5) (N := 20) hx hb hts inX5 hown hK hP 0 rfl rfl 6 (by decide) lf13 (fun _ h9 => h9) rfl dX5_teachesOf_1 ?_
  refine lv_iconst (v := nI 4) hx hb dX5_teachesOf_4 (by decide) ?_
  refine lv_iload_n hx hb dX5_teachesOf_5 rfl (lv_at hl 1 rfl) ?_
  refine w_mulN hx hb dX5_teachesOf_6 ?_
  refine w_iald (k := 4 * c) hx hb hK hP 2 0 rfl rfl (by omega) (by decide) dX5_teachesOf_7 ?_
  refine lv_aload_n hx hb dX5_teachesOf_8 rfl (lv_at hl 0 rfl) ?_
  refine va_get (D := (dC, dI)) (ci := 4) (v := .ref m2) (C := RX5) (T := TX5) (N := 20) hx hb hts inX5 hown hK hP 0 rfl rfl 6 (by decide) lf13 (fun _ h9 => h9) rfl dX5_teachesOf_9 ?_
  refine lv_iconst (v := nI 4) hx hb dX5_teachesOf_12 (by decide) ?_
  refine lv_iload_n hx hb dX5_teachesOf_13 rfl (lv_at hl 1 rfl) ?_
  refine w_mulN hx hb dX5_teachesOf_14 ?_
  refine lv_iconst (v := nI 1) hx hb dX5_teachesOf_15 (by decide) ?_
  refine w_addN hx hb dX5_teachesOf_16 ?_
  refine w_iald (k := (4 * c) + 1) hx hb hK hP 2 0 rfl rfl (by omega) (by decide) dX5_teachesOf_17 ?_
  refine lv_iload_n hx hb dX5_teachesOf_18 rfl (lv_at hl 2 rfl) ?_
  have hPc := hP.sub (ws' := []) [] rfl
  refine callRi (v := (tb (mr (4 * c)) (mr ((4 * c) + 1)) r)) (W.runS (As := [.int (mr (4 * c)), .int (mr ((4 * c) + 1)), .int (r)]) (rest := []) ⟨hx, hb, hml, hown, hts⟩ (k_X5_teachesBy l dC dI cI cZ (mr (4 * c)) (mr ((4 * c) + 1)) (r) (hS c) (hr2)) (va_cwS 3 hts gX5_teachesOf_X5_teachesBy rfl rfl rfl (by decide +kernel) ⟨Nat.le_of_ble_eq_true rfl, Nat.le_of_ble_eq_true rfl⟩) (preRS hK hPc) rfl rfl hl.1 rfl (lv_room (Nat.le_of_ble_eq_true rfl)) dX5_teachesOf_19 ⟨Nat.zero_le _, Nat.zero_le _⟩) ?_
  exact retRi hx hb hr hlocks (by rfl) dX5_teachesOf_22
set_option maxHeartbeats 1000000 in
set_option maxRecDepth 100000 in
theorem k_X5_isIll (l : Launch) (dC : Nat → ClassId) (dI : Nat → Nat → Nat) (cI cZ : ClassId) (m0 m1 m2 m3 m4 m5 m6 m7 : Nat) (mp mr mh mt mv mkr mkh : Nat → Int32) (pn n h sdn kh : Nat) (th tt sr tp ks kth ktt : Int32) (hs : Int64) (c : Nat) (hc : c < 6) (hI : GI (rI mr)) : Met l yX5_isIll wsX5_isIll ({ frames := 0, cells := 0, slots := 0, locals := 0 }) (va_Pc [.ref m0, .int (nI c)] (PR (dC, dI) cI cZ [(m0, .inr (4, [.ref m1, .int (nI pn), .int (nI n), .int (th), .int (tt), .int (sr), .ref m2, .int (tp), .int (nI h), .ref m3, .ref m4, .int (nI sdn), .ref m5, .int (ks), .int (kth), .int (ktt), .int (nI kh), .ref m6, .ref m7, .long (hs)])), (m1, .inl (cI, 20, .inl (mp))), (m2, .inl (cI, 24, .inl (mr))), (m3, .inl (cI, 24, .inl (mh))), (m4, .inl (cI, 12, .inl (mt))), (m5, .inl (cI, 24, .inl (mv))), (m6, .inl (cI, 24, .inl (mkr))), (m7, .inl (cI, 24, .inl (mkh)))])) (QRi ((if (¬ rI mr c = nI 0) then nI 1 else nI 0))) 0 0 noF := by
  refine Met.ofW (cc := cX5_isIll) (maxL := 2) (ret := (some .boolean)) (by decide) rfl ?_
  intro p e s m args below meth co s₁ B hml hv
  obtain ⟨rfl, hP, hK⟩ := hv
  have hx := B.exec
  have hb := B.bytes
  have hr := B.returns
  have hts := atoms_spec (ws := wsX5_isIll) B.pre
  have hown : s.vm.findClass RX5 = some m.cls := findClass_of_methodNamed B.named
  have hlocks := B.notSynchronized
  have inX5 : ∀ w ∈ u_ws RX5 TX5 20, w ∈ wsX5_isIll := by decide +kernel
  have lf13 := hts (.fieldLink RX5 13 "ThursdayRungsModel" "rows" "[I") (by decide +kernel)
  have hl := lv_entry ([.ref m0, .int (nI c)]) (n := 2) (Nat.le_of_ble_eq_true rfl)
  rw [lg_entry_eq]
  generalize (lg_sl ([.ref m0, .int (nI c)]) ++ List.replicate (2 - (lg_sl ([.ref m0, .int (nI c)])).length) Slot.unset).toArray = ls at hl ⊢
  have hl : lv_has ls 2 [(0, .ref m0), (1, .int (nI c))] := hl
  refine lv_aload_n hx hb dX5_isIll_0 rfl (lv_at hl 0 rfl) ?_
  refine va_get (D := (dC, dI)) (ci := 4) (v := .ref m2) (C := RX5) (T := TX5) (N := 20) hx hb hts inX5 hown hK hP 0 rfl rfl 6 (by decide) lf13 (fun _ h9 => h9) rfl dX5_isIll_1 ?_
  refine lv_iconst (v := nI 4) hx hb dX5_isIll_4 (by decide) ?_
  refine lv_iload_n hx hb dX5_isIll_5 rfl (lv_at hl 1 rfl) ?_
  refine w_mulN hx hb dX5_isIll_6 ?_
  refine lv_iconst (v := nI 3) hx hb dX5_isIll_7 (by decide) ?_
  refine w_addN hx hb dX5_isIll_8 ?_
  refine w_iald (k := (4 * c) + 3) hx hb hK hP 2 0 rfl rfl (by omega) (by decide) dX5_isIll_9 ?_
  refine lv_iconst (v := nI 1) hx hb dX5_isIll_10 (by decide) ?_
  refine lv_icmp_ne (tgt := 18) hx hb dX5_isIll_11 (by decide) (fun c_1 => ?_) (fun c_1 => ?_)
  · skip
    refine lv_iconst (v := nI 0) hx hb dX5_isIll_18 (by decide) ?_
    exact retRz hx hb hr hlocks rfl (by first | exact ill1 (hI c) c_1 | exact ill0 (hI c) c_1) dX5_isIll_19
  · skip
    refine lv_iconst (v := nI 1) hx hb dX5_isIll_14 (by decide) ?_
    refine lv_goto (tgt := 19) hx hb dX5_isIll_15 (by decide) ?_
    exact retRz hx hb hr hlocks rfl (by first | exact ill1 (hI c) c_1 | exact ill0 (hI c) c_1) dX5_isIll_19
set_option maxHeartbeats 1000000 in
set_option maxRecDepth 100000 in
theorem k_X5_wouldTeach (l : Launch) (dC : Nat → ClassId) (dI : Nat → Nat → Nat) (cI cZ : ClassId) (m0 m1 m2 m3 m4 m5 m6 m7 : Nat) (mp mr mh mt mv mkr mkh : Nat → Int32) (pn n h sdn kh : Nat) (th tt sr tp ks kth ktt : Int32) (hs : Int64) (c : Nat) (hc : c < 6) (hS : GS (rS mr)) (hN : GN (rN mr)) (hI : GI (rI mr)) : Met l yX5_wouldTeach wsX5_wouldTeach ({ frames := 2, cells := 0, slots := 0, locals := 45 }) (va_Pc [.ref m0, .int (nI c)] (PR (dC, dI) cI cZ [(m0, .inr (4, [.ref m1, .int (nI pn), .int (nI n), .int (th), .int (tt), .int (sr), .ref m2, .int (tp), .int (nI h), .ref m3, .ref m4, .int (nI sdn), .ref m5, .int (ks), .int (kth), .int (ktt), .int (nI kh), .ref m6, .ref m7, .long (hs)])), (m1, .inl (cI, 20, .inl (mp))), (m2, .inl (cI, 24, .inl (mr))), (m3, .inl (cI, 24, .inl (mh))), (m4, .inl (cI, 12, .inl (mt))), (m5, .inl (cI, 24, .inl (mv))), (m6, .inl (cI, 24, .inl (mkr))), (m7, .inl (cI, 24, .inl (mkh)))])) (QRi ((wt (rK mr) (rS mr) (rN mr) (rI mr) c))) 0 0 noF := by
  refine Met.ofW (cc := cX5_wouldTeach) (maxL := 3) (ret := (some .int)) (by decide) rfl ?_
  intro p e s m args below meth co s₁ B hml hv
  obtain ⟨rfl, hP, hK⟩ := hv
  have hx := B.exec
  have hb := B.bytes
  have hr := B.returns
  have hts := atoms_spec (ws := wsX5_wouldTeach) B.pre
  have hown : s.vm.findClass RX5 = some m.cls := findClass_of_methodNamed B.named
  have hlocks := B.notSynchronized
  have inX5 : ∀ w ∈ u_ws RX5 TX5 20, w ∈ wsX5_wouldTeach := by decide +kernel
  have lf13 := hts (.fieldLink RX5 13 "ThursdayRungsModel" "rows" "[I") (by decide +kernel)
  have hl := lv_entry ([.ref m0, .int (nI c)]) (n := 3) (Nat.le_of_ble_eq_true rfl)
  rw [lg_entry_eq]
  generalize (lg_sl ([.ref m0, .int (nI c)]) ++ List.replicate (3 - (lg_sl ([.ref m0, .int (nI c)])).length) Slot.unset).toArray = ls at hl ⊢
  have hl : lv_has ls 3 [(0, .ref m0), (1, .int (nI c))] := hl
  refine lv_aload_n hx hb dX5_wouldTeach_0 rfl (lv_at hl 0 rfl) ?_
  refine lv_iload_n hx hb dX5_wouldTeach_1 rfl (lv_at hl 1 rfl) ?_
  have hPc := hP.sub (ws' := [(m0, .inr (4, [.ref m1, .int (nI pn), .int (nI n), .int (th), .int (tt), .int (sr), .ref m2, .int (tp), .int (nI h), .ref m3, .ref m4, .int (nI sdn), .ref m5, .int (ks), .int (kth), .int (ktt), .int (nI kh), .ref m6, .ref m7, .long (hs)])), (m1, .inl (cI, 20, .inl (mp))), (m2, .inl (cI, 24, .inl (mr))), (m3, .inl (cI, 24, .inl (mh))), (m4, .inl (cI, 12, .inl (mt))), (m5, .inl (cI, 24, .inl (mv))), (m6, .inl (cI, 24, .inl (mkr))), (m7, .inl (cI, 24, .inl (mkh)))]) [0, 1, 2, 3, 4, 5, 6, 7] rfl
  refine callRi (v := (if (¬ rI mr c = nI 0) then nI 1 else nI 0)) (W.runV (As := [.int (nI c)]) (rest := []) ⟨hx, hb, hml, hown, hts⟩ (k_X5_isIll l dC dI cI cZ m0 m1 m2 m3 m4 m5 m6 m7 (mp) (mr) (mh) (mt) (mv) (mkr) (mkh) (pn) (n) (h) (sdn) (kh) (th) (tt) (sr) (tp) (ks) (kth) (ktt) (hs) (c) (by first | omega | with_reducible assumption | (simp; omega)) (by first | omega | with_reducible assumption | (simp; omega))) (cwV 1 hts gX5_wouldTeach_X5_isIll rfl rfl rfl (by decide +kernel) ⟨Nat.le_of_ble_eq_true rfl, Nat.le_of_ble_eq_true rfl⟩) (preRV (q := (RX5, TX5, 20)) (ci := 4) hK hPc rfl rfl) rfl rfl hl.1 rfl (lv_room (Nat.le_of_ble_eq_true rfl)) dX5_wouldTeach_2 ⟨Nat.zero_le _, Nat.zero_le _⟩) ?_
  refine w_ifneB (tgt := 26) hx hb dX5_wouldTeach_5 (by decide) (fun c_1 => ?_) (fun c_1 => ?_)
  · skip
    refine lv_iconst (v := nI 0) hx hb dX5_wouldTeach_26 (by decide) ?_
    refine lv_istore_n (lv' := [(2, .int (nI 0)), (0, .ref m0), (1, .int (nI c))]) hx hb dX5_wouldTeach_27 rfl hl (by decide) rfl (fun ls hl => ?_)
    refine lv_iload_n hx hb dX5_wouldTeach_28 rfl (lv_at hl 0 rfl) ?_
    refine w_ifeqN (tgt := 50) hx hb (by omega) dX5_wouldTeach_29 (by decide) (fun c_2 => ?_) (fun c_2 => ?_)
    · skip
      refine lv_iconst (v := -1) hx hb dX5_wouldTeach_50 (by decide) ?_
      exact retRi hx hb hr hlocks (by first | exact (if_pos (Or.inr c_1)).symm | exact (if_pos (Or.inl c_1)).symm | exact (if_neg (fun q => q.elim c_1 hI)).symm) dX5_wouldTeach_51
    · skip
      first | exact absurd c_2 (by decide) | exact (c_2 : False).elim | omega
  · skip
    refine lv_aload_n hx hb dX5_wouldTeach_8 rfl (lv_at hl 0 rfl) ?_
    refine va_get (D := (dC, dI)) (ci := 4) (v := .ref m2) (C := RX5) (T := TX5) (N := 20) hx hb hts inX5 hown hK hP 0 rfl rfl 6 (by decide) lf13 (fun _ h9 => h9) rfl dX5_wouldTeach_9 ?_
    refine lv_iconst (v := nI 4) hx hb dX5_wouldTeach_12 (by decide) ?_
    refine lv_iload_n hx hb dX5_wouldTeach_13 rfl (lv_at hl 1 rfl) ?_
    refine w_mulN hx hb dX5_wouldTeach_14 ?_
    refine lv_iconst (v := nI 2) hx hb dX5_wouldTeach_15 (by decide) ?_
    refine w_addN hx hb dX5_wouldTeach_16 ?_
    refine w_iald (k := (4 * c) + 2) hx hb hK hP 2 0 rfl rfl (by omega) (by decide) dX5_wouldTeach_17 ?_
    refine lv_iconst (v := -1) hx hb dX5_wouldTeach_18 (by decide) ?_
    refine lv_icmp_eq (tgt := 26) hx hb dX5_wouldTeach_19 (by decide) (fun c_3 => ?_) (fun c_3 => ?_)
    · skip
      refine lv_iconst (v := nI 0) hx hb dX5_wouldTeach_26 (by decide) ?_
      refine lv_istore_n (lv' := [(2, .int (nI 0)), (0, .ref m0), (1, .int (nI c))]) hx hb dX5_wouldTeach_27 rfl hl (by decide) rfl (fun ls hl => ?_)
      refine lv_iload_n hx hb dX5_wouldTeach_28 rfl (lv_at hl 0 rfl) ?_
      refine w_ifeqN (tgt := 50) hx hb (by omega) dX5_wouldTeach_29 (by decide) (fun c_4 => ?_) (fun c_4 => ?_)
      · skip
        refine lv_iconst (v := -1) hx hb dX5_wouldTeach_50 (by decide) ?_
        exact retRi hx hb hr hlocks (by first | exact (if_pos (Or.inr c_3)).symm | exact (if_pos (Or.inl c_3)).symm | exact (if_neg (fun q => q.elim c_3 c_1)).symm) dX5_wouldTeach_51
      · skip
        first | exact absurd c_4 (by decide) | exact (c_4 : False).elim | omega
    · skip
      refine lv_iconst (v := nI 1) hx hb dX5_wouldTeach_22 (by decide) ?_
      refine lv_goto (tgt := 27) hx hb dX5_wouldTeach_23 (by decide) ?_
      refine lv_istore_n (lv' := [(2, .int (nI 1)), (0, .ref m0), (1, .int (nI c))]) hx hb dX5_wouldTeach_27 rfl hl (by decide) rfl (fun ls hl => ?_)
      refine lv_iload_n hx hb dX5_wouldTeach_28 rfl (lv_at hl 0 rfl) ?_
      refine w_ifeqN (tgt := 50) hx hb (by omega) dX5_wouldTeach_29 (by decide) (fun c_5 => ?_) (fun c_5 => ?_)
      · skip
        first | exact absurd c_5 (by decide) | exact (c_5 : False).elim | omega
      · skip
        refine lv_aload_n hx hb dX5_wouldTeach_32 rfl (lv_at hl 1 rfl) ?_
        refine lv_iload_n hx hb dX5_wouldTeach_33 rfl (lv_at hl 2 rfl) ?_
        refine lv_aload_n hx hb dX5_wouldTeach_34 rfl (lv_at hl 1 rfl) ?_
        refine va_get (D := (dC, dI)) (ci := 4) (v := .ref m2) (C := RX5) (T := TX5) (N := 20) hx hb hts inX5 hown hK hP 0 rfl rfl 6 (by decide) lf13 (fun _ h9 => h9) rfl dX5_wouldTeach_35 ?_
        refine lv_iconst (v := nI 4) hx hb dX5_wouldTeach_38 (by decide) ?_
        refine lv_iload_n hx hb dX5_wouldTeach_39 rfl (lv_at hl 2 rfl) ?_
        refine w_mulN hx hb dX5_wouldTeach_40 ?_
        refine lv_iconst (v := nI 2) hx hb dX5_wouldTeach_41 (by decide) ?_
        refine w_addN hx hb dX5_wouldTeach_42 ?_
        refine w_iald (k := (4 * c) + 2) hx hb hK hP 2 0 rfl rfl (by omega) (by decide) dX5_wouldTeach_43 ?_
        have hPc := hP.sub (ws' := [(m0, .inr (4, [.ref m1, .int (nI pn), .int (nI n), .int (th), .int (tt), .int (sr), .ref m2, .int (tp), .int (nI h), .ref m3, .ref m4, .int (nI sdn), .ref m5, .int (ks), .int (kth), .int (ktt), .int (nI kh), .ref m6, .ref m7, .long (hs)])), (m1, .inl (cI, 20, .inl (mp))), (m2, .inl (cI, 24, .inl (mr))), (m3, .inl (cI, 24, .inl (mh))), (m4, .inl (cI, 12, .inl (mt))), (m5, .inl (cI, 24, .inl (mv))), (m6, .inl (cI, 24, .inl (mkr))), (m7, .inl (cI, 24, .inl (mkh)))]) [0, 1, 2, 3, 4, 5, 6, 7] rfl
        refine callRi (v := (tb (rK mr c) (rS mr c) (mr ((4 * c) + 2)))) (W.runV (As := [.int (nI c), .int (mr ((4 * c) + 2))]) (rest := []) ⟨hx, hb, hml, hown, hts⟩ (k_X5_teachesOf l dC dI cI cZ m0 m1 m2 m3 m4 m5 m6 m7 (mp) (mr) (mh) (mt) (mv) (mkr) (mkh) (pn) (n) (h) (sdn) (kh) (th) (tt) (sr) (tp) (ks) (kth) (ktt) (hs) (c) (mr ((4 * c) + 2)) (by first | omega | with_reducible assumption | (simp; omega)) (by first | omega | with_reducible assumption | (simp; omega)) ((hN c).resolve_left c_3)) (cwV 2 hts gX5_wouldTeach_X5_teachesOf rfl rfl rfl (by decide +kernel) ⟨Nat.le_of_ble_eq_true rfl, Nat.le_of_ble_eq_true rfl⟩) (preRV (q := (RX5, TX5, 20)) (ci := 4) hK hPc rfl rfl) rfl rfl hl.1 rfl (lv_room (Nat.le_of_ble_eq_true rfl)) dX5_wouldTeach_44 ⟨Nat.zero_le _, Nat.zero_le _⟩) ?_
        refine lv_goto (tgt := 51) hx hb dX5_wouldTeach_47 (by decide) ?_
        exact retRi hx hb hr hlocks (by first | exact (if_pos (Or.inr c_3)).symm | exact (if_pos (Or.inl c_3)).symm | exact (if_neg (fun q => q.elim c_3 c_1)).symm) dX5_wouldTeach_51
