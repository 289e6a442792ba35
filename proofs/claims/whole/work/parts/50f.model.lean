theorem as_no3 {a k : Int32} (hk : k = nI 1) (h2 : ¬ k = a) (h3 : ¬ a = nI 4) : ¬ (k = nI 0 ∨ a = k ∨ (a = nI 4 ∧ k = nI 1)) := by
  rintro (q | q | q)
  · rw [hk] at q; exact absurd q (by decide)
  · exact h2 q.symm
  · exact h3 q.1
set_option maxHeartbeats 1000000 in
set_option maxRecDepth 100000 in
theorem k_X5_as (l : Launch) (dC : Nat → ClassId) (dI : Nat → Nat → Nat) (cI cZ : ClassId) (m0 m1 m2 m3 m4 m5 m6 m7 : Nat) (mp mr mh mt mv mkr mkh : Nat → Int32) (pn n h sdn kh : Nat) (th tt sr tp ks kth ktt : Int32) (hs : Int64) (c : Int32) (k2 : Int32) (hn6 : n ≤ 6) : Met l yX5_as wsX5_as ({ frames := 2, cells := 0, slots := 0, locals := 46 }) (va_Pc [.ref m0, .int (c), .int (k2)] (PR (dC, dI) cI cZ [(m0, .inr (4, [.ref m1, .int (nI pn), .int (nI n), .int (th), .int (tt), .int (sr), .ref m2, .int (tp), .int (nI h), .ref m3, .ref m4, .int (nI sdn), .ref m5, .int (ks), .int (kth), .int (ktt), .int (nI kh), .ref m6, .ref m7, .long (hs)])), (m1, .inl (cI, 20, .inl (mp))), (m2, .inl (cI, 24, .inl (mr))), (m3, .inl (cI, 24, .inl (mh))), (m4, .inl (cI, 12, .inl (mt))), (m5, .inl (cI, 24, .inl (mv))), (m6, .inl (cI, 24, .inl (mkr))), (m7, .inl (cI, 24, .inl (mkh)))])) (QRi ((asF n (rK mr) c k2))) 0 0 noF := by
  refine Met.ofW (cc := cX5_as) (maxL := 5) (ret := (some .int)) (by decide) rfl ?_
  intro p e s m args below meth co s₁ B hml hv
  obtain ⟨rfl, hP, hK⟩ := hv
  have hx := B.exec
  have hb := B.bytes
  have hr := B.returns
  have hts := atoms_spec (ws := wsX5_as) B.pre
  have hown : s.vm.findClass RX5 = some m.cls := findClass_of_methodNamed B.named
  have hlocks := B.notSynchronized
  have inX5 : ∀ w ∈ u_ws RX5 TX5 20, w ∈ wsX5_as := by decide +kernel
  have lc104 := hts (.constantLong RX5 104 (4)) (by decide +kernel)
  have lf13 := hts (.fieldLink RX5 13 "ThursdayRungsModel" "rows" "[I") (by decide +kernel)
  have hl := lv_entry ([.ref m0, .int (c), .int (k2)]) (n := 5) (Nat.le_of_ble_eq_true rfl)
  rw [lg_entry_eq]
  generalize (lg_sl ([.ref m0, .int (c), .int (k2)]) ++ List.replicate (5 - (lg_sl ([.ref m0, .int (c), .int (k2)])).length) Slot.unset).toArray = ls at hl ⊢
  have hl : lv_has ls 5 [(0, .ref m0), (1, .int (c)), (2, .int (k2))] := hl
  refine lv_aload_n hx hb dX5_as_0 rfl (lv_at hl 0 rfl) ?_
  refine lv_iload_n hx hb dX5_as_1 rfl (lv_at hl 1 rfl) ?_
  have hPc := hP.sub (ws' := [(m0, .inr (4, [.ref m1, .int (nI pn), .int (nI n), .int (th), .int (tt), .int (sr), .ref m2, .int (tp), .int (nI h), .ref m3, .ref m4, .int (nI sdn), .ref m5, .int (ks), .int (kth), .int (ktt), .int (nI kh), .ref m6, .ref m7, .long (hs)])), (m1, .inl (cI, 20, .inl (mp))), (m2, .inl (cI, 24, .inl (mr))), (m3, .inl (cI, 24, .inl (mh))), (m4, .inl (cI, 12, .inl (mt))), (m5, .inl (cI, 24, .inl (mv))), (m6, .inl (cI, 24, .inl (mkr))), (m7, .inl (cI, 24, .inl (mkh)))]) [0, 1, 2, 3, 4, 5, 6, 7] rfl
  refine callRi (v := (if (inR n c) then nI 1 else nI 0)) (W.runV (As := [.int (c)]) (rest := []) ⟨hx, hb, hml, hown, hts⟩ (k_X5_isChild l dC dI cI cZ m0 m1 m2 m3 m4 m5 m6 m7 (mp) (mr) (mh) (mt) (mv) (mkr) (mkh) (pn) (n) (h) (sdn) (kh) (th) (tt) (sr) (tp) (ks) (kth) (ktt) (hs) (c) (by first | omega | with_reducible assumption | (simp; omega))) (cwV 1 hts gX5_as_X5_isChild rfl rfl rfl (by decide +kernel) ⟨Nat.le_of_ble_eq_true rfl, Nat.le_of_ble_eq_true rfl⟩) (preRV (q := (RX5, TX5, 20)) (ci := 4) hK hPc rfl rfl) rfl rfl hl.1 rfl (lv_room (Nat.le_of_ble_eq_true rfl)) dX5_as_2 ⟨Nat.zero_le _, Nat.zero_le _⟩) ?_
  refine w_ifneB (tgt := 11) hx hb dX5_as_5 (by decide) (fun c_1 => ?_) (fun c_1 => ?_)
  · skip
    obtain ⟨k, hk, rfl⟩ := inR_of c_1
    refine lv_iload_n hx hb dX5_as_11 rfl (lv_at hl 2 rfl) ?_
    refine lv_i2l (v := Int32.toInt64 (k2)) hx hb dX5_as_12 rfl ?_
    refine lv_lconst (v := 0) hx hb dX5_as_13 (by decide) ?_
    refine lv_ldc2 (v := 4) hx hb hown lc104 dX5_as_14 ?_
    have hPc := hP.sub (ws' := []) [] rfl
    refine callRi (v := (if ((0 : Int64) ≤ (Int32.toInt64 (k2)) ∧ (Int32.toInt64 (k2)) ≤ (4 : Int64)) then nI 1 else nI 0)) (W.runS (As := [.long ((Int32.toInt64 (k2))), .long ((0 : Int64)), .long ((4 : Int64))]) (rest := []) ⟨hx, hb, hml, hown, hts⟩ (k_X5_in l dC dI cI cZ ((Int32.toInt64 (k2))) ((0 : Int64)) ((4 : Int64))) (va_cwS 3 hts gX5_as_X5_in rfl rfl rfl (by decide +kernel) ⟨Nat.le_of_ble_eq_true rfl, Nat.le_of_ble_eq_true rfl⟩) (preRS hK hPc) rfl rfl hl.1 rfl (lv_room (Nat.le_of_ble_eq_true rfl)) dX5_as_17 ⟨Nat.zero_le _, Nat.zero_le _⟩) ?_
    rw [show ((if ((0 : Int64) ≤ (Int32.toInt64 (k2)) ∧ (Int32.toInt64 (k2)) ≤ (4 : Int64)) then nI 1 else nI 0) : Int32) = (if (inR 5 k2) then nI 1 else nI 0) from ite_c (in64 (n := 5) rfl rfl)]
    refine w_ifneB (tgt := 26) hx hb dX5_as_20 (by decide) (fun c_3 => ?_) (fun c_3 => ?_)
    · skip
      refine lv_aload_n hx hb dX5_as_26 rfl (lv_at hl 0 rfl) ?_
      refine va_get (D := (dC, dI)) (ci := 4) (v := .ref m2) (C := RX5) (T := TX5) (N := 20) hx hb hts inX5 hown hK hP 0 rfl rfl 6 (by decide) lf13 (fun _ h9 => h9) rfl dX5_as_27 ?_
      refine lv_iconst (v := nI 4) hx hb dX5_as_30 (by decide) ?_
      refine lv_iload_n hx hb dX5_as_31 rfl (lv_at hl 1 rfl) ?_
      refine w_mulN hx hb dX5_as_32 ?_
      refine w_iald (k := 4 * k) hx hb hK hP 2 0 rfl rfl (by omega) (by decide) dX5_as_33 ?_
      refine lv_istore_n (lv' := [(3, .int (mr (4 * k))), (0, .ref m0), (1, .int (nI k)), (2, .int (k2))]) hx hb dX5_as_34 rfl hl (by decide) rfl (fun ls hl => ?_)
      refine lv_iload_n hx hb dX5_as_35 rfl (lv_at hl 3 rfl) ?_
      refine lv_if_eq (tgt := 54) hx hb dX5_as_36 (by decide) (fun c_4 => ?_) (fun c_4 => ?_)
      · skip
        refine lv_iconst (v := nI 1) hx hb dX5_as_54 (by decide) ?_
        refine lv_goto (tgt := 59) hx hb dX5_as_55 (by decide) ?_
        refine lv_istore (lv' := [(4, .int (nI 1)), (3, .int (mr (4 * k))), (0, .ref m0), (1, .int (nI k)), (2, .int (k2))]) hx hb dX5_as_59 hl (by decide) rfl (fun ls hl => ?_)
        refine lv_iload hx hb dX5_as_61 (lv_at hl 0 rfl) ?_
        refine w_ifeqN (tgt := 70) hx hb (by omega) dX5_as_63 (by decide) (fun c_5 => ?_) (fun c_5 => ?_)
        · skip
          first | exact absurd c_5 (by decide) | exact (c_5 : False).elim | omega
        · skip
          refine lv_iload_n hx hb dX5_as_66 rfl (lv_at hl 3 rfl) ?_
          refine lv_goto (tgt := 71) hx hb dX5_as_67 (by decide) ?_
          exact retRi hx hb hr hlocks (by unfold asF; rw [if_pos (inR_nI hk (by omega)), if_pos (show inR 5 k2 by assumption), ix_nI (show k < 2147483648 by omega)]; first | exact (if_pos (Or.inl c_4)).symm | exact (if_pos (Or.inr (Or.inl (Eq.symm c_4)))).symm | exact (if_pos (Or.inr (Or.inr ⟨c_4, c_3⟩))).symm | exact (if_neg (as_no (x := 0) hk c_3 c_4)).symm | exact (if_neg (as_no3 c_3 hk c_4)).symm) dX5_as_71
      · skip
        refine lv_iload_n hx hb dX5_as_39 rfl (lv_at hl 3 rfl) ?_
        refine lv_iload_n hx hb dX5_as_40 rfl (lv_at hl 0 rfl) ?_
        refine lv_icmp_eq (tgt := 54) hx hb dX5_as_41 (by decide) (fun c_6 => ?_) (fun c_6 => ?_)
        · skip
          refine lv_iconst (v := nI 1) hx hb dX5_as_54 (by decide) ?_
          refine lv_goto (tgt := 59) hx hb dX5_as_55 (by decide) ?_
          refine lv_istore (lv' := [(4, .int (nI 1)), (3, .int (mr (4 * k))), (0, .ref m0), (1, .int (nI k)), (2, .int (k2))]) hx hb dX5_as_59 hl (by decide) rfl (fun ls hl => ?_)
          refine lv_iload hx hb dX5_as_61 (lv_at hl 0 rfl) ?_
          refine w_ifeqN (tgt := 70) hx hb (by omega) dX5_as_63 (by decide) (fun c_7 => ?_) (fun c_7 => ?_)
          · skip
            first | exact absurd c_7 (by decide) | exact (c_7 : False).elim | omega
          · skip
            refine lv_iload_n hx hb dX5_as_66 rfl (lv_at hl 3 rfl) ?_
            refine lv_goto (tgt := 71) hx hb dX5_as_67 (by decide) ?_
            exact retRi hx hb hr hlocks (by unfold asF; rw [if_pos (inR_nI hk (by omega)), if_pos (show inR 5 k2 by assumption), ix_nI (show k < 2147483648 by omega)]; first | exact (if_pos (Or.inl c_6)).symm | exact (if_pos (Or.inr (Or.inl (Eq.symm c_6)))).symm | exact (if_pos (Or.inr (Or.inr ⟨c_6, c_4⟩))).symm | exact (if_neg (as_no (x := 0) c_3 c_4 c_6)).symm | exact (if_neg (as_no3 c_4 c_3 c_6)).symm) dX5_as_71
        · skip
          refine lv_iload_n hx hb dX5_as_44 rfl (lv_at hl 3 rfl) ?_
          refine lv_iconst (v := nI 1) hx hb dX5_as_45 (by decide) ?_
          refine lv_icmp_ne (tgt := 58) hx hb dX5_as_46 (by decide) (fun c_8 => ?_) (fun c_8 => ?_)
          · skip
            refine lv_iconst (v := nI 0) hx hb dX5_as_58 (by decide) ?_
            refine lv_istore (lv' := [(4, .int (nI 0)), (3, .int (mr (4 * k))), (0, .ref m0), (1, .int (nI k)), (2, .int (k2))]) hx hb dX5_as_59 hl (by decide) rfl (fun ls hl => ?_)
            refine lv_iload hx hb dX5_as_61 (lv_at hl 0 rfl) ?_
            refine w_ifeqN (tgt := 70) hx hb (by omega) dX5_as_63 (by decide) (fun c_9 => ?_) (fun c_9 => ?_)
            · skip
              refine lv_iconst (v := -1) hx hb dX5_as_70 (by decide) ?_
              exact retRi hx hb hr hlocks (by unfold asF; rw [if_pos (inR_nI hk (by omega)), if_pos (show inR 5 k2 by assumption), ix_nI (show k < 2147483648 by omega)]; first | exact (if_pos (Or.inl c_8)).symm | exact (if_pos (Or.inr (Or.inl (Eq.symm c_8)))).symm | exact (if_pos (Or.inr (Or.inr ⟨c_8, c_6⟩))).symm | exact (if_neg (as_no (x := 0) c_4 c_6 c_8)).symm | exact (if_neg (as_no3 c_6 c_4 c_8)).symm) dX5_as_71
            · skip
              first | exact absurd c_9 (by decide) | exact (c_9 : False).elim | omega
          · skip
            refine lv_iload_n hx hb dX5_as_49 rfl (lv_at hl 0 rfl) ?_
            refine lv_iconst (v := nI 4) hx hb dX5_as_50 (by decide) ?_
            refine lv_icmp_ne (tgt := 58) hx hb dX5_as_51 (by decide) (fun c_10 => ?_) (fun c_10 => ?_)
            · skip
              refine lv_iconst (v := nI 0) hx hb dX5_as_58 (by decide) ?_
              refine lv_istore (lv' := [(4, .int (nI 0)), (3, .int (mr (4 * k))), (0, .ref m0), (1, .int (nI k)), (2, .int (k2))]) hx hb dX5_as_59 hl (by decide) rfl (fun ls hl => ?_)
              refine lv_iload hx hb dX5_as_61 (lv_at hl 0 rfl) ?_
              refine w_ifeqN (tgt := 70) hx hb (by omega) dX5_as_63 (by decide) (fun c_11 => ?_) (fun c_11 => ?_)
              · skip
                refine lv_iconst (v := -1) hx hb dX5_as_70 (by decide) ?_
                exact retRi hx hb hr hlocks (by unfold asF; rw [if_pos (inR_nI hk (by omega)), if_pos (show inR 5 k2 by assumption), ix_nI (show k < 2147483648 by omega)]; first | exact (if_pos (Or.inl c_10)).symm | exact (if_pos (Or.inr (Or.inl (Eq.symm c_10)))).symm | exact (if_pos (Or.inr (Or.inr ⟨c_10, c_8⟩))).symm | exact (if_neg (as_no (x := 0) c_6 c_8 c_10)).symm | exact (if_neg (as_no3 c_8 c_6 c_10)).symm) dX5_as_71
              · skip
                first | exact absurd c_11 (by decide) | exact (c_11 : False).elim | omega
            · skip
              refine lv_iconst (v := nI 1) hx hb dX5_as_54 (by decide) ?_
              refine lv_goto (tgt := 59) hx hb dX5_as_55 (by decide) ?_
              refine lv_istore (lv' := [(4, .int (nI 1)), (3, .int (mr (4 * k))), (0, .ref m0), (1, .int (nI k)), (2, .int (k2))]) hx hb dX5_as_59 hl (by decide) rfl (fun ls hl => ?_)
              refine lv_iload hx hb dX5_as_61 (lv_at hl 0 rfl) ?_
              refine w_ifeqN (tgt := 70) hx hb (by omega) dX5_as_63 (by decide) (fun c_12 => ?_) (fun c_12 => ?_)
              · skip
                first | exact absurd c_12 (by decide) | exact (c_12 : False).elim | omega
              · skip
                refine lv_iload_n hx hb dX5_as_66 rfl (lv_at hl 3 rfl) ?_
                refine lv_goto (tgt := 71) hx hb dX5_as_67 (by decide) ?_
                exact retRi hx hb hr hlocks (by unfold asF; rw [if_pos (inR_nI hk (by omega)), if_pos (show inR 5 k2 by assumption), ix_nI (show k < 2147483648 by omega)]; first | exact (if_pos (Or.inl c_10)).symm | exact (if_pos (Or.inr (Or.inl (Eq.symm c_10)))).symm | exact (if_pos (Or.inr (Or.inr ⟨c_10, c_8⟩))).symm | exact (if_neg (as_no (x := 0) c_6 c_8 c_10)).symm | exact (if_neg (as_no3 c_8 c_6 c_10)).symm) dX5_as_71
    · skip
      refine lv_bipush (v := -102) hx hb dX5_as_23 (by decide) ?_
      exact retRi hx hb hr hlocks (by unfold asF; rw [if_pos (inR_nI hk (by omega)), if_neg c_3]) dX5_as_25
  · skip
    refine lv_bipush (v := -101) hx hb dX5_as_8 (by decide) ?_
    exact retRi hx hb hr hlocks (by unfold asF; rw [if_neg c_1]) dX5_as_10
set_option maxHeartbeats 1000000 in
set_option maxRecDepth 100000 in
theorem k_X5_letter (l : Launch) (dC : Nat → ClassId) (dI : Nat → Nat → Nat) (cI cZ : ClassId) (m0 m1 m2 m3 m4 m5 m6 m7 : Nat) (sz : Nat) (mp mr mh mt mv mkr mkh : Nat → Int32) (pn n h sdn kh : Nat) (th tt sr tp ks kth ktt : Int32) (hs : Int64) (cd : Int32) (hp : pn ≤ 20) : Met l yX5_letter wsX5_letter ({ frames := 1, cells := 0, slots := 0, locals := 25 }) (va_Pc [.ref m0, .int (cd)] (PW (dC, dI) cI cZ sz [(m0, .inr (4, [.ref m1, .int (nI pn), .int (nI n), .int (th), .int (tt), .int (sr), .ref m2, .int (tp), .int (nI h), .ref m3, .ref m4, .int (nI sdn), .ref m5, .int (ks), .int (kth), .int (ktt), .int (nI kh), .ref m6, .ref m7, .long (hs)])), (m1, .inl (cI, 20, .inl (mp))), (m2, .inl (cI, 24, .inl (mr))), (m3, .inl (cI, 24, .inl (mh))), (m4, .inl (cI, 12, .inl (mt))), (m5, .inl (cI, 24, .inl (mv))), (m6, .inl (cI, 24, .inl (mkr))), (m7, .inl (cI, 24, .inl (mkh)))])) (QWi (dC, dI) ((letA pn cd)) [(m0, .inr (4, [.ref m1, .int (nI pn), .int (nI n), .int (th), .int (tt), .int (sr), .ref m2, .int (tp), .int (nI h), .ref m3, .ref m4, .int (nI sdn), .ref m5, .int (ks), .int (kth), .int (ktt), .int (nI kh), .ref m6, .ref m7, .long (hs)])), (m1, .inl (cI, 20, .inl (mp))), (m2, .inl (cI, 24, .inl (mr))), (m3, .inl (cI, 24, .inl (mh))), (m4, .inl (cI, 12, .inl (mt))), (m5, .inl (cI, 24, .inl (mv))), (m6, .inl (cI, 24, .inl (mkr))), (m7, .inl (cI, 24, .inl (mkh)))] [(m0, .inr (4, [.ref m1, .int (nI ((letN pn cd))), .int (nI n), .int (th), .int (tt), .int (sr), .ref m2, .int (tp), .int (nI h), .ref m3, .ref m4, .int (nI sdn), .ref m5, .int (ks), .int (kth), .int (ktt), .int (nI kh), .ref m6, .ref m7, .long (hs)])), (m1, .inl (cI, 20, .inl ((letG pn cd mp)))), (m2, .inl (cI, 24, .inl (mr))), (m3, .inl (cI, 24, .inl (mh))), (m4, .inl (cI, 12, .inl (mt))), (m5, .inl (cI, 24, .inl (mv))), (m6, .inl (cI, 24, .inl (mkr))), (m7, .inl (cI, 24, .inl (mkh)))] sz) 0 0 (va_A [(m0, .inr (4, [.ref m1, .int (nI pn), .int (nI n), .int (th), .int (tt), .int (sr), .ref m2, .int (tp), .int (nI h), .ref m3, .ref m4, .int (nI sdn), .ref m5, .int (ks), .int (kth), .int (ktt), .int (nI kh), .ref m6, .ref m7, .long (hs)])), (m1, .inl (cI, 20, .inl (mp))), (m2, .inl (cI, 24, .inl (mr))), (m3, .inl (cI, 24, .inl (mh))), (m4, .inl (cI, 12, .inl (mt))), (m5, .inl (cI, 24, .inl (mv))), (m6, .inl (cI, 24, .inl (mkr))), (m7, .inl (cI, 24, .inl (mkh)))] sz) := by
  refine Met.ofW (cc := cX5_letter) (maxL := 2) (ret := (some .int)) (by decide) rfl ?_
  intro p e s m args below meth co s₁ B hml hv
  obtain ⟨rfl, hsz, hP, hK, hD0⟩ := hv
  have hx := B.exec
  have hb := B.bytes
  have hr := B.returns
  have hts := atoms_spec (ws := wsX5_letter) B.pre
  have hown : s.vm.findClass RX5 = some m.cls := findClass_of_methodNamed B.named
  have hlocks := B.notSynchronized
  subst hsz
  have hD := hD0.self (sz := s.heap.size)
  generalize hAe : va_A [(m0, .inr (4, [.ref m1, .int (nI pn), .int (nI n), .int (th), .int (tt), .int (sr), .ref m2, .int (tp), .int (nI h), .ref m3, .ref m4, .int (nI sdn), .ref m5, .int (ks), .int (kth), .int (ktt), .int (nI kh), .ref m6, .ref m7, .long (hs)])), (m1, .inl (cI, 20, .inl (mp))), (m2, .inl (cI, 24, .inl (mr))), (m3, .inl (cI, 24, .inl (mh))), (m4, .inl (cI, 12, .inl (mt))), (m5, .inl (cI, 24, .inl (mv))), (m6, .inl (cI, 24, .inl (mkr))), (m7, .inl (cI, 24, .inl (mkh)))] s.heap.size = A at hD
  have hA : ∀ q : Nat, s.heap.size ≤ q → A q := fun q h => by rw [← hAe]; exact Or.inr h
  have hS : va_S A s.heap s.heap [] := va_S.rf
  have inX5 : ∀ w ∈ u_ws RX5 TX5 20, w ∈ wsX5_letter := by decide +kernel
  have lc35 := hts (.constantLong RX5 35 (126)) (by decide +kernel)
  have lf41 := hts (.fieldLink RX5 41 "ThursdayRungsModel" "pageMany" "I") (by decide +kernel)
  have lf7 := hts (.fieldLink RX5 7 "ThursdayRungsModel" "page" "[I") (by decide +kernel)
  have hl := lv_entry ([.ref m0, .int (cd)]) (n := 2) (Nat.le_of_ble_eq_true rfl)
  rw [lg_entry_eq]
  generalize (lg_sl ([.ref m0, .int (cd)]) ++ List.replicate (2 - (lg_sl ([.ref m0, .int (cd)])).length) Slot.unset).toArray = ls at hl ⊢
  have hl : lv_has ls 2 [(0, .ref m0), (1, .int (cd))] := hl
  have hP : va_P (dC, dI) vwCl [(m0, .inr (4, [.ref m1, .int (nI pn), .int (nI n), .int (th), .int (tt), .int (sr), .ref m2, .int (tp), .int (nI h), .ref m3, .ref m4, .int (nI sdn), .ref m5, .int (ks), .int (kth), .int (ktt), .int (nI kh), .ref m6, .ref m7, .long (hs)])), (m1, .inl (cI, 20, .inl (mp))), (m2, .inl (cI, 24, .inl (mr))), (m3, .inl (cI, 24, .inl (mh))), (m4, .inl (cI, 12, .inl (mt))), (m5, .inl (cI, 24, .inl (mv))), (m6, .inl (cI, 24, .inl (mkr))), (m7, .inl (cI, 24, .inl (mkh)))] s.heap := hP
  refine lv_iload_n hx hb dX5_letter_0 rfl (lv_at hl 1 rfl) ?_
  refine lv_i2l (v := Int32.toInt64 (cd)) hx hb dX5_letter_1 rfl ?_
  refine lv_lconst (v := 1) hx hb dX5_letter_2 (by decide) ?_
  refine lv_ldc2 (v := 126) hx hb hown lc35 dX5_letter_3 ?_
  have hPc := hP.sub (ws' := []) [] rfl
  refine callRi (v := (if ((1 : Int64) ≤ (Int32.toInt64 (cd)) ∧ (Int32.toInt64 (cd)) ≤ (126 : Int64)) then nI 1 else nI 0)) (W.runS (As := [.long ((Int32.toInt64 (cd))), .long ((1 : Int64)), .long ((126 : Int64))]) (rest := []) ⟨hx, hb, hml, hown, hts⟩ (k_X5_in l dC dI cI cZ ((Int32.toInt64 (cd))) ((1 : Int64)) ((126 : Int64))) (va_cwS 3 hts gX5_letter_X5_in rfl rfl rfl (by decide +kernel) ⟨Nat.le_of_ble_eq_true rfl, Nat.le_of_ble_eq_true rfl⟩) (preRS hK hPc) rfl rfl hl.1 rfl (lv_room (Nat.le_of_ble_eq_true rfl)) dX5_letter_6 ⟨Nat.zero_le _, Nat.zero_le _⟩) ?_
  rw [show ((if ((1 : Int64) ≤ (Int32.toInt64 (cd)) ∧ (Int32.toInt64 (cd)) ≤ (126 : Int64)) then nI 1 else nI 0) : Int32) = (if (letP cd) then nI 1 else nI 0) from ite_c (in64_let rfl rfl)]
  refine w_ifneB (tgt := 15) hx hb dX5_letter_9 (by decide) (fun c_2 => ?_) (fun c_2 => ?_)
  · skip
    refine lv_aload_n hx hb dX5_letter_15 rfl (lv_at hl 0 rfl) ?_
    refine va_get (D := (dC, dI)) (ci := 4) (v := .int (nI pn)) (C := RX5) (T := TX5) (N := 20) hx hb hts inX5 hown hK hP 0 rfl rfl 1 (by decide) lf41 (fun _ h9 => h9) rfl dX5_letter_16 ?_
    refine lv_bipush (v := nI 20) hx hb dX5_letter_19 (by decide) ?_
    refine w_ci_ne (tgt := 27) hx hb (by omega) (by omega) dX5_letter_21 (by decide) (fun c_3 => ?_) (fun c_3 => ?_)
    · skip
      refine lv_aload_n hx hb dX5_letter_27 rfl (lv_at hl 0 rfl) ?_
      refine va_get (D := (dC, dI)) (ci := 4) (v := .ref m1) (C := RX5) (T := TX5) (N := 20) hx hb hts inX5 hown hK hP 0 rfl rfl 0 (by decide) lf7 (fun _ h9 => h9) rfl dX5_letter_28 ?_
      refine lv_aload_n hx hb dX5_letter_31 rfl (lv_at hl 0 rfl) ?_
      refine va_get (D := (dC, dI)) (ci := 4) (v := .int (nI pn)) (C := RX5) (T := TX5) (N := 20) hx hb hts inX5 hown hK hP 0 rfl rfl 1 (by decide) lf41 (fun _ h9 => h9) rfl dX5_letter_32 ?_
      refine lv_iload_n hx hb dX5_letter_35 rfl (lv_at hl 1 rfl) ?_
      refine w_iast (k := pn) hx hb hK hP hD hS 1 0 rfl rfl (by omega) (by decide) dX5_letter_36 (fun H locs hP hD hS => ?_)
      have hP : va_P (dC, dI) vwCl [(m0, .inr (4, [.ref m1, .int (nI pn), .int (nI n), .int (th), .int (tt), .int (sr), .ref m2, .int (tp), .int (nI h), .ref m3, .ref m4, .int (nI sdn), .ref m5, .int (ks), .int (kth), .int (ktt), .int (nI kh), .ref m6, .ref m7, .long (hs)])), (m1, .inl (cI, 20, .inl (upd mp pn (cd)))), (m2, .inl (cI, 24, .inl (mr))), (m3, .inl (cI, 24, .inl (mh))), (m4, .inl (cI, 12, .inl (mt))), (m5, .inl (cI, 24, .inl (mv))), (m6, .inl (cI, 24, .inl (mkr))), (m7, .inl (cI, 24, .inl (mkh)))] H := hP
      have hD : va_D A [(m0, .inr (4, [.ref m1, .int (nI pn), .int (nI n), .int (th), .int (tt), .int (sr), .ref m2, .int (tp), .int (nI h), .ref m3, .ref m4, .int (nI sdn), .ref m5, .int (ks), .int (kth), .int (ktt), .int (nI kh), .ref m6, .ref m7, .long (hs)])), (m1, .inl (cI, 20, .inl (upd mp pn (cd)))), (m2, .inl (cI, 24, .inl (mr))), (m3, .inl (cI, 24, .inl (mh))), (m4, .inl (cI, 12, .inl (mt))), (m5, .inl (cI, 24, .inl (mv))), (m6, .inl (cI, 24, .inl (mkr))), (m7, .inl (cI, 24, .inl (mkh)))] := hD
      refine lv_aload_n hx hb dX5_letter_37 rfl (lv_at hl 0 rfl) ?_
      refine lv_dup hx hb dX5_letter_38 rfl ?_
      refine va_get (D := (dC, dI)) (ci := 4) (v := .int (nI pn)) (C := RX5) (T := TX5) (N := 20) hx hb hts inX5 hown hK hP 0 rfl rfl 1 (by decide) lf41 (fun _ h9 => h9) rfl dX5_letter_39 ?_
      refine lv_iconst (v := nI 1) hx hb dX5_letter_42 (by decide) ?_
      refine w_addN hx hb dX5_letter_43 ?_
      refine va_put (D := (dC, dI)) (ci := 4) (v := .int (nI (pn + 1))) (ty := .int) (C := RX5) (T := TX5) (N := 20) hx hb hts inX5 tyX5 tyX5_ok nmX5 hown hK hP hD hS 0 rfl rfl 1 (by decide) lf41 (fun _ h9 => h9) rfl (by decide +kernel) rfl rfl (Nat.le_of_ble_eq_true rfl) dX5_letter_44 (fun H locs hP hD hS => ?_)
      have hP : va_P (dC, dI) vwCl [(m0, .inr (4, [.ref m1, .int (nI (pn + 1)), .int (nI n), .int (th), .int (tt), .int (sr), .ref m2, .int (tp), .int (nI h), .ref m3, .ref m4, .int (nI sdn), .ref m5, .int (ks), .int (kth), .int (ktt), .int (nI kh), .ref m6, .ref m7, .long (hs)])), (m1, .inl (cI, 20, .inl (upd mp pn (cd)))), (m2, .inl (cI, 24, .inl (mr))), (m3, .inl (cI, 24, .inl (mh))), (m4, .inl (cI, 12, .inl (mt))), (m5, .inl (cI, 24, .inl (mv))), (m6, .inl (cI, 24, .inl (mkr))), (m7, .inl (cI, 24, .inl (mkh)))] H := hP
      have hD : va_D A [(m0, .inr (4, [.ref m1, .int (nI (pn + 1)), .int (nI n), .int (th), .int (tt), .int (sr), .ref m2, .int (tp), .int (nI h), .ref m3, .ref m4, .int (nI sdn), .ref m5, .int (ks), .int (kth), .int (ktt), .int (nI kh), .ref m6, .ref m7, .long (hs)])), (m1, .inl (cI, 20, .inl (upd mp pn (cd)))), (m2, .inl (cI, 24, .inl (mr))), (m3, .inl (cI, 24, .inl (mh))), (m4, .inl (cI, 12, .inl (mt))), (m5, .inl (cI, 24, .inl (mv))), (m6, .inl (cI, 24, .inl (mkr))), (m7, .inl (cI, 24, .inl (mkh)))] := hD
      refine lv_aload_n hx hb dX5_letter_47 rfl (lv_at hl 0 rfl) ?_
      refine va_get (D := (dC, dI)) (ci := 4) (v := .int (nI (pn + 1))) (C := RX5) (T := TX5) (N := 20) hx hb hts inX5 hown hK hP 0 rfl rfl 1 (by decide) lf41 (fun _ h9 => h9) rfl dX5_letter_48 ?_
      have hP7 := hP.sub (ws' := [(m0, .inr (4, [.ref m1, .int (nI (pn + 1)), .int (nI n), .int (th), .int (tt), .int (sr), .ref m2, .int (tp), .int (nI h), .ref m3, .ref m4, .int (nI sdn), .ref m5, .int (ks), .int (kth), .int (ktt), .int (nI kh), .ref m6, .ref m7, .long (hs)])), (m1, .inl (cI, 20, .inl (upd mp pn (cd)))), (m2, .inl (cI, 24, .inl (mr))), (m3, .inl (cI, 24, .inl (mh))), (m4, .inl (cI, 12, .inl (mt))), (m5, .inl (cI, 24, .inl (mv))), (m6, .inl (cI, 24, .inl (mkr))), (m7, .inl (cI, 24, .inl (mkh)))]) [0, 1, 2, 3, 4, 5, 6, 7] rfl
      have hD7 := hD.sub (ws' := [(m0, .inr (4, [.ref m1, .int (nI (pn + 1)), .int (nI n), .int (th), .int (tt), .int (sr), .ref m2, .int (tp), .int (nI h), .ref m3, .ref m4, .int (nI sdn), .ref m5, .int (ks), .int (kth), .int (ktt), .int (nI kh), .ref m6, .ref m7, .long (hs)])), (m1, .inl (cI, 20, .inl (upd mp pn (cd)))), (m2, .inl (cI, 24, .inl (mr))), (m3, .inl (cI, 24, .inl (mh))), (m4, .inl (cI, 12, .inl (mt))), (m5, .inl (cI, 24, .inl (mv))), (m6, .inl (cI, 24, .inl (mkr))), (m7, .inl (cI, 24, .inl (mkh)))]) [0, 1, 2, 3, 4, 5, 6, 7] (by decide) rfl
      have he_4 : (nI (pn + 1) : Int32) = nI ((letN pn cd)) := by unfold letN; rw [if_pos ⟨c_2, by omega⟩]
      have he_5 : (upd mp pn (cd) : Nat → Int32) = (letG pn cd mp) := by unfold letG; rw [if_pos ⟨c_2, by omega⟩]
      have heq : ([(m0, .inr (4, [.ref m1, .int (nI (pn + 1)), .int (nI n), .int (th), .int (tt), .int (sr), .ref m2, .int (tp), .int (nI h), .ref m3, .ref m4, .int (nI sdn), .ref m5, .int (ks), .int (kth), .int (ktt), .int (nI kh), .ref m6, .ref m7, .long (hs)])), (m1, .inl (cI, 20, .inl (upd mp pn (cd)))), (m2, .inl (cI, 24, .inl (mr))), (m3, .inl (cI, 24, .inl (mh))), (m4, .inl (cI, 12, .inl (mt))), (m5, .inl (cI, 24, .inl (mv))), (m6, .inl (cI, 24, .inl (mkr))), (m7, .inl (cI, 24, .inl (mkh)))] : va_W) = [(m0, .inr (4, [.ref m1, .int (nI ((letN pn cd))), .int (nI n), .int (th), .int (tt), .int (sr), .ref m2, .int (tp), .int (nI h), .ref m3, .ref m4, .int (nI sdn), .ref m5, .int (ks), .int (kth), .int (ktt), .int (nI kh), .ref m6, .ref m7, .long (hs)])), (m1, .inl (cI, 20, .inl ((letG pn cd mp)))), (m2, .inl (cI, 24, .inl (mr))), (m3, .inl (cI, 24, .inl (mh))), (m4, .inl (cI, 12, .inl (mt))), (m5, .inl (cI, 24, .inl (mv))), (m6, .inl (cI, 24, .inl (mkr))), (m7, .inl (cI, 24, .inl (mkh)))] := by rw [← he_4, ← he_5]
      have hP7 := w_Pc hP7 heq
      have hD7 := w_Dc hD7 heq
      exact retWi hx hb hr hlocks (by unfold letA; rw [if_pos c_2, if_neg (by omega)]) hP7 hD7 hS hAe dX5_letter_51
    · skip
      refine lv_bipush (v := -104) hx hb dX5_letter_24 (by decide) ?_
      have hP7 := hP.sub (ws' := [(m0, .inr (4, [.ref m1, .int (nI pn), .int (nI n), .int (th), .int (tt), .int (sr), .ref m2, .int (tp), .int (nI h), .ref m3, .ref m4, .int (nI sdn), .ref m5, .int (ks), .int (kth), .int (ktt), .int (nI kh), .ref m6, .ref m7, .long (hs)])), (m1, .inl (cI, 20, .inl (mp))), (m2, .inl (cI, 24, .inl (mr))), (m3, .inl (cI, 24, .inl (mh))), (m4, .inl (cI, 12, .inl (mt))), (m5, .inl (cI, 24, .inl (mv))), (m6, .inl (cI, 24, .inl (mkr))), (m7, .inl (cI, 24, .inl (mkh)))]) [0, 1, 2, 3, 4, 5, 6, 7] rfl
      have hD7 := hD.sub (ws' := [(m0, .inr (4, [.ref m1, .int (nI pn), .int (nI n), .int (th), .int (tt), .int (sr), .ref m2, .int (tp), .int (nI h), .ref m3, .ref m4, .int (nI sdn), .ref m5, .int (ks), .int (kth), .int (ktt), .int (nI kh), .ref m6, .ref m7, .long (hs)])), (m1, .inl (cI, 20, .inl (mp))), (m2, .inl (cI, 24, .inl (mr))), (m3, .inl (cI, 24, .inl (mh))), (m4, .inl (cI, 12, .inl (mt))), (m5, .inl (cI, 24, .inl (mv))), (m6, .inl (cI, 24, .inl (mkr))), (m7, .inl (cI, 24, .inl (mkh)))]) [0, 1, 2, 3, 4, 5, 6, 7] (by decide) rfl
      have he_6 : (nI pn : Int32) = nI ((letN pn cd)) := by unfold letN; rw [if_neg (fun q => q.2 (by omega))]
      have he_7 : (mp : Nat → Int32) = (letG pn cd mp) := by unfold letG; rw [if_neg (fun q => q.2 (by omega))]
      have heq : ([(m0, .inr (4, [.ref m1, .int (nI pn), .int (nI n), .int (th), .int (tt), .int (sr), .ref m2, .int (tp), .int (nI h), .ref m3, .ref m4, .int (nI sdn), .ref m5, .int (ks), .int (kth), .int (ktt), .int (nI kh), .ref m6, .ref m7, .long (hs)])), (m1, .inl (cI, 20, .inl (mp))), (m2, .inl (cI, 24, .inl (mr))), (m3, .inl (cI, 24, .inl (mh))), (m4, .inl (cI, 12, .inl (mt))), (m5, .inl (cI, 24, .inl (mv))), (m6, .inl (cI, 24, .inl (mkr))), (m7, .inl (cI, 24, .inl (mkh)))] : va_W) = [(m0, .inr (4, [.ref m1, .int (nI ((letN pn cd))), .int (nI n), .int (th), .int (tt), .int (sr), .ref m2, .int (tp), .int (nI h), .ref m3, .ref m4, .int (nI sdn), .ref m5, .int (ks), .int (kth), .int (ktt), .int (nI kh), .ref m6, .ref m7, .long (hs)])), (m1, .inl (cI, 20, .inl ((letG pn cd mp)))), (m2, .inl (cI, 24, .inl (mr))), (m3, .inl (cI, 24, .inl (mh))), (m4, .inl (cI, 12, .inl (mt))), (m5, .inl (cI, 24, .inl (mv))), (m6, .inl (cI, 24, .inl (mkr))), (m7, .inl (cI, 24, .inl (mkh)))] := by rw [← he_6, ← he_7]
      have hP7 := w_Pc hP7 heq
      have hD7 := w_Dc hD7 heq
      exact retWi hx hb hr hlocks (by unfold letA; rw [if_pos c_2, if_pos (by omega)]) hP7 hD7 hS hAe dX5_letter_26
  · skip
    refine lv_bipush (v := -102) hx hb dX5_letter_12 (by decide) ?_
    have hP7 := hP.sub (ws' := [(m0, .inr (4, [.ref m1, .int (nI pn), .int (nI n), .int (th), .int (tt), .int (sr), .ref m2, .int (tp), .int (nI h), .ref m3, .ref m4, .int (nI sdn), .ref m5, .int (ks), .int (kth), .int (ktt), .int (nI kh), .ref m6, .ref m7, .long (hs)])), (m1, .inl (cI, 20, .inl (mp))), (m2, .inl (cI, 24, .inl (mr))), (m3, .inl (cI, 24, .inl (mh))), (m4, .inl (cI, 12, .inl (mt))), (m5, .inl (cI, 24, .inl (mv))), (m6, .inl (cI, 24, .inl (mkr))), (m7, .inl (cI, 24, .inl (mkh)))]) [0, 1, 2, 3, 4, 5, 6, 7] rfl
    have hD7 := hD.sub (ws' := [(m0, .inr (4, [.ref m1, .int (nI pn), .int (nI n), .int (th), .int (tt), .int (sr), .ref m2, .int (tp), .int (nI h), .ref m3, .ref m4, .int (nI sdn), .ref m5, .int (ks), .int (kth), .int (ktt), .int (nI kh), .ref m6, .ref m7, .long (hs)])), (m1, .inl (cI, 20, .inl (mp))), (m2, .inl (cI, 24, .inl (mr))), (m3, .inl (cI, 24, .inl (mh))), (m4, .inl (cI, 12, .inl (mt))), (m5, .inl (cI, 24, .inl (mv))), (m6, .inl (cI, 24, .inl (mkr))), (m7, .inl (cI, 24, .inl (mkh)))]) [0, 1, 2, 3, 4, 5, 6, 7] (by decide) rfl
    have he_8 : (nI pn : Int32) = nI ((letN pn cd)) := by unfold letN; rw [if_neg (fun q => c_2 q.1)]
    have he_9 : (mp : Nat → Int32) = (letG pn cd mp) := by unfold letG; rw [if_neg (fun q => c_2 q.1)]
    have heq : ([(m0, .inr (4, [.ref m1, .int (nI pn), .int (nI n), .int (th), .int (tt), .int (sr), .ref m2, .int (tp), .int (nI h), .ref m3, .ref m4, .int (nI sdn), .ref m5, .int (ks), .int (kth), .int (ktt), .int (nI kh), .ref m6, .ref m7, .long (hs)])), (m1, .inl (cI, 20, .inl (mp))), (m2, .inl (cI, 24, .inl (mr))), (m3, .inl (cI, 24, .inl (mh))), (m4, .inl (cI, 12, .inl (mt))), (m5, .inl (cI, 24, .inl (mv))), (m6, .inl (cI, 24, .inl (mkr))), (m7, .inl (cI, 24, .inl (mkh)))] : va_W) = [(m0, .inr (4, [.ref m1, .int (nI ((letN pn cd))), .int (nI n), .int (th), .int (tt), .int (sr), .ref m2, .int (tp), .int (nI h), .ref m3, .ref m4, .int (nI sdn), .ref m5, .int (ks), .int (kth), .int (ktt), .int (nI kh), .ref m6, .ref m7, .long (hs)])), (m1, .inl (cI, 20, .inl ((letG pn cd mp)))), (m2, .inl (cI, 24, .inl (mr))), (m3, .inl (cI, 24, .inl (mh))), (m4, .inl (cI, 12, .inl (mt))), (m5, .inl (cI, 24, .inl (mv))), (m6, .inl (cI, 24, .inl (mkr))), (m7, .inl (cI, 24, .inl (mkh)))] := by rw [← he_8, ← he_9]
    have hP7 := w_Pc hP7 heq
    have hD7 := w_Dc hD7 heq
    exact retWi hx hb hr hlocks (by unfold letA; rw [if_neg c_2]) hP7 hD7 hS hAe dX5_letter_14
set_option maxHeartbeats 1000000 in
set_option maxRecDepth 100000 in
theorem k_X5_blank (l : Launch) (dC : Nat → ClassId) (dI : Nat → Nat → Nat) (cI cZ : ClassId) (m0 m1 m2 m3 m4 m5 m6 m7 : Nat) (sz : Nat) (mp mr mh mt mv mkr mkh : Nat → Int32) (pn n h sdn kh : Nat) (th tt sr tp ks kth ktt : Int32) (hs : Int64) : Met l yX5_blank wsX5_blank ({ frames := 0, cells := 0, slots := 0, locals := 0 }) (va_Pc [.ref m0] (PW (dC, dI) cI cZ sz [(m0, .inr (4, [.ref m1, .int (nI pn), .int (nI n), .int (th), .int (tt), .int (sr), .ref m2, .int (tp), .int (nI h), .ref m3, .ref m4, .int (nI sdn), .ref m5, .int (ks), .int (kth), .int (ktt), .int (nI kh), .ref m6, .ref m7, .long (hs)])), (m1, .inl (cI, 20, .inl (mp))), (m2, .inl (cI, 24, .inl (mr))), (m3, .inl (cI, 24, .inl (mh))), (m4, .inl (cI, 12, .inl (mt))), (m5, .inl (cI, 24, .inl (mv))), (m6, .inl (cI, 24, .inl (mkr))), (m7, .inl (cI, 24, .inl (mkh)))])) (QWi (dC, dI) (nI pn) [(m0, .inr (4, [.ref m1, .int (nI pn), .int (nI n), .int (th), .int (tt), .int (sr), .ref m2, .int (tp), .int (nI h), .ref m3, .ref m4, .int (nI sdn), .ref m5, .int (ks), .int (kth), .int (ktt), .int (nI kh), .ref m6, .ref m7, .long (hs)])), (m1, .inl (cI, 20, .inl (mp))), (m2, .inl (cI, 24, .inl (mr))), (m3, .inl (cI, 24, .inl (mh))), (m4, .inl (cI, 12, .inl (mt))), (m5, .inl (cI, 24, .inl (mv))), (m6, .inl (cI, 24, .inl (mkr))), (m7, .inl (cI, 24, .inl (mkh)))] [(m0, .inr (4, [.ref m1, .int (nI 0), .int (nI n), .int (th), .int (tt), .int (sr), .ref m2, .int (tp), .int (nI h), .ref m3, .ref m4, .int (nI sdn), .ref m5, .int (ks), .int (kth), .int (ktt), .int (nI kh), .ref m6, .ref m7, .long (hs)])), (m1, .inl (cI, 20, .inl (mp))), (m2, .inl (cI, 24, .inl (mr))), (m3, .inl (cI, 24, .inl (mh))), (m4, .inl (cI, 12, .inl (mt))), (m5, .inl (cI, 24, .inl (mv))), (m6, .inl (cI, 24, .inl (mkr))), (m7, .inl (cI, 24, .inl (mkh)))] sz) 0 0 (va_A [(m0, .inr (4, [.ref m1, .int (nI pn), .int (nI n), .int (th), .int (tt), .int (sr), .ref m2, .int (tp), .int (nI h), .ref m3, .ref m4, .int (nI sdn), .ref m5, .int (ks), .int (kth), .int (ktt), .int (nI kh), .ref m6, .ref m7, .long (hs)])), (m1, .inl (cI, 20, .inl (mp))), (m2, .inl (cI, 24, .inl (mr))), (m3, .inl (cI, 24, .inl (mh))), (m4, .inl (cI, 12, .inl (mt))), (m5, .inl (cI, 24, .inl (mv))), (m6, .inl (cI, 24, .inl (mkr))), (m7, .inl (cI, 24, .inl (mkh)))] sz) := by
  refine Met.ofW (cc := cX5_blank) (maxL := 2) (ret := (some .int)) (by decide) rfl ?_
  intro p e s m args below meth co s₁ B hml hv
  obtain ⟨rfl, hsz, hP, hK, hD0⟩ := hv
  have hx := B.exec
  have hb := B.bytes
  have hr := B.returns
  have hts := atoms_spec (ws := wsX5_blank) B.pre
  have hown : s.vm.findClass RX5 = some m.cls := findClass_of_methodNamed B.named
  have hlocks := B.notSynchronized
  subst hsz
  have hD := hD0.self (sz := s.heap.size)
  generalize hAe : va_A [(m0, .inr (4, [.ref m1, .int (nI pn), .int (nI n), .int (th), .int (tt), .int (sr), .ref m2, .int (tp), .int (nI h), .ref m3, .ref m4, .int (nI sdn), .ref m5, .int (ks), .int (kth), .int (ktt), .int (nI kh), .ref m6, .ref m7, .long (hs)])), (m1, .inl (cI, 20, .inl (mp))), (m2, .inl (cI, 24, .inl (mr))), (m3, .inl (cI, 24, .inl (mh))), (m4, .inl (cI, 12, .inl (mt))), (m5, .inl (cI, 24, .inl (mv))), (m6, .inl (cI, 24, .inl (mkr))), (m7, .inl (cI, 24, .inl (mkh)))] s.heap.size = A at hD
  have hA : ∀ q : Nat, s.heap.size ≤ q → A q := fun q h => by rw [← hAe]; exact Or.inr h
  have hS : va_S A s.heap s.heap [] := va_S.rf
  have inX5 : ∀ w ∈ u_ws RX5 TX5 20, w ∈ wsX5_blank := by decide +kernel
  have lf41 := hts (.fieldLink RX5 41 "ThursdayRungsModel" "pageMany" "I") (by decide +kernel)
  have hl := lv_entry ([.ref m0]) (n := 2) (Nat.le_of_ble_eq_true rfl)
  rw [lg_entry_eq]
  generalize (lg_sl ([.ref m0]) ++ List.replicate (2 - (lg_sl ([.ref m0])).length) Slot.unset).toArray = ls at hl ⊢
  have hl : lv_has ls 2 [(0, .ref m0)] := hl
  have hP : va_P (dC, dI) vwCl [(m0, .inr (4, [.ref m1, .int (nI pn), .int (nI n), .int (th), .int (tt), .int (sr), .ref m2, .int (tp), .int (nI h), .ref m3, .ref m4, .int (nI sdn), .ref m5, .int (ks), .int (kth), .int (ktt), .int (nI kh), .ref m6, .ref m7, .long (hs)])), (m1, .inl (cI, 20, .inl (mp))), (m2, .inl (cI, 24, .inl (mr))), (m3, .inl (cI, 24, .inl (mh))), (m4, .inl (cI, 12, .inl (mt))), (m5, .inl (cI, 24, .inl (mv))), (m6, .inl (cI, 24, .inl (mkr))), (m7, .inl (cI, 24, .inl (mkh)))] s.heap := hP
  refine lv_aload_n hx hb dX5_blank_0 rfl (lv_at hl 0 rfl) ?_
  refine va_get (D := (dC, dI)) (ci := 4) (v := .int (nI pn)) (C := RX5) (T := TX5) (N := 20) hx hb hts inX5 hown hK hP 0 rfl rfl 1 (by decide) lf41 (fun _ h9 => h9) rfl dX5_blank_1 ?_
  refine lv_istore_n (lv' := [(1, .int (nI pn)), (0, .ref m0)]) hx hb dX5_blank_4 rfl hl (by decide) rfl (fun ls hl => ?_)
  refine lv_aload_n hx hb dX5_blank_5 rfl (lv_at hl 1 rfl) ?_
  refine lv_iconst (v := nI 0) hx hb dX5_blank_6 (by decide) ?_
  refine va_put (D := (dC, dI)) (ci := 4) (v := .int (nI 0)) (ty := .int) (C := RX5) (T := TX5) (N := 20) hx hb hts inX5 tyX5 tyX5_ok nmX5 hown hK hP hD hS 0 rfl rfl 1 (by decide) lf41 (fun _ h9 => h9) rfl (by decide +kernel) rfl rfl (Nat.le_of_ble_eq_true rfl) dX5_blank_7 (fun H locs hP hD hS => ?_)
  have hP : va_P (dC, dI) vwCl [(m0, .inr (4, [.ref m1, .int (nI 0), .int (nI n), .int (th), .int (tt), .int (sr), .ref m2, .int (tp), .int (nI h), .ref m3, .ref m4, .int (nI sdn), .ref m5, .int (ks), .int (kth), .int (ktt), .int (nI kh), .ref m6, .ref m7, .long (hs)])), (m1, .inl (cI, 20, .inl (mp))), (m2, .inl (cI, 24, .inl (mr))), (m3, .inl (cI, 24, .inl (mh))), (m4, .inl (cI, 12, .inl (mt))), (m5, .inl (cI, 24, .inl (mv))), (m6, .inl (cI, 24, .inl (mkr))), (m7, .inl (cI, 24, .inl (mkh)))] H := hP
  have hD : va_D A [(m0, .inr (4, [.ref m1, .int (nI 0), .int (nI n), .int (th), .int (tt), .int (sr), .ref m2, .int (tp), .int (nI h), .ref m3, .ref m4, .int (nI sdn), .ref m5, .int (ks), .int (kth), .int (ktt), .int (nI kh), .ref m6, .ref m7, .long (hs)])), (m1, .inl (cI, 20, .inl (mp))), (m2, .inl (cI, 24, .inl (mr))), (m3, .inl (cI, 24, .inl (mh))), (m4, .inl (cI, 12, .inl (mt))), (m5, .inl (cI, 24, .inl (mv))), (m6, .inl (cI, 24, .inl (mkr))), (m7, .inl (cI, 24, .inl (mkh)))] := hD
  refine lv_iload_n hx hb dX5_blank_10 rfl (lv_at hl 0 rfl) ?_
  have hP7 := hP.sub (ws' := [(m0, .inr (4, [.ref m1, .int (nI 0), .int (nI n), .int (th), .int (tt), .int (sr), .ref m2, .int (tp), .int (nI h), .ref m3, .ref m4, .int (nI sdn), .ref m5, .int (ks), .int (kth), .int (ktt), .int (nI kh), .ref m6, .ref m7, .long (hs)])), (m1, .inl (cI, 20, .inl (mp))), (m2, .inl (cI, 24, .inl (mr))), (m3, .inl (cI, 24, .inl (mh))), (m4, .inl (cI, 12, .inl (mt))), (m5, .inl (cI, 24, .inl (mv))), (m6, .inl (cI, 24, .inl (mkr))), (m7, .inl (cI, 24, .inl (mkh)))]) [0, 1, 2, 3, 4, 5, 6, 7] rfl
  have hD7 := hD.sub (ws' := [(m0, .inr (4, [.ref m1, .int (nI 0), .int (nI n), .int (th), .int (tt), .int (sr), .ref m2, .int (tp), .int (nI h), .ref m3, .ref m4, .int (nI sdn), .ref m5, .int (ks), .int (kth), .int (ktt), .int (nI kh), .ref m6, .ref m7, .long (hs)])), (m1, .inl (cI, 20, .inl (mp))), (m2, .inl (cI, 24, .inl (mr))), (m3, .inl (cI, 24, .inl (mh))), (m4, .inl (cI, 12, .inl (mt))), (m5, .inl (cI, 24, .inl (mv))), (m6, .inl (cI, 24, .inl (mkr))), (m7, .inl (cI, 24, .inl (mkh)))]) [0, 1, 2, 3, 4, 5, 6, 7] (by decide) rfl
  exact retWi hx hb hr hlocks rfl hP7 hD7 hS hAe dX5_blank_11
set_option maxHeartbeats 1000000 in
set_option maxRecDepth 100000 in
theorem k_X5_forget (l : Launch) (dC : Nat → ClassId) (dI : Nat → Nat → Nat) (cI cZ : ClassId) (m0 m1 m2 m3 m4 m5 m6 m7 : Nat) (sz : Nat) (mp mr mh mt mv mkr mkh : Nat → Int32) (pn n h sdn kh : Nat) (th tt sr tp ks kth ktt : Int32) (hs : Int64) : Met l yX5_forget wsX5_forget ({ frames := 0, cells := 0, slots := 0, locals := 0 }) (va_Pc [.ref m0] (PW (dC, dI) cI cZ sz [(m0, .inr (4, [.ref m1, .int (nI pn), .int (nI n), .int (th), .int (tt), .int (sr), .ref m2, .int (tp), .int (nI h), .ref m3, .ref m4, .int (nI sdn), .ref m5, .int (ks), .int (kth), .int (ktt), .int (nI kh), .ref m6, .ref m7, .long (hs)])), (m1, .inl (cI, 20, .inl (mp))), (m2, .inl (cI, 24, .inl (mr))), (m3, .inl (cI, 24, .inl (mh))), (m4, .inl (cI, 12, .inl (mt))), (m5, .inl (cI, 24, .inl (mv))), (m6, .inl (cI, 24, .inl (mkr))), (m7, .inl (cI, 24, .inl (mkh)))])) (QWi (dC, dI) (nI h) [(m0, .inr (4, [.ref m1, .int (nI pn), .int (nI n), .int (th), .int (tt), .int (sr), .ref m2, .int (tp), .int (nI h), .ref m3, .ref m4, .int (nI sdn), .ref m5, .int (ks), .int (kth), .int (ktt), .int (nI kh), .ref m6, .ref m7, .long (hs)])), (m1, .inl (cI, 20, .inl (mp))), (m2, .inl (cI, 24, .inl (mr))), (m3, .inl (cI, 24, .inl (mh))), (m4, .inl (cI, 12, .inl (mt))), (m5, .inl (cI, 24, .inl (mv))), (m6, .inl (cI, 24, .inl (mkr))), (m7, .inl (cI, 24, .inl (mkh)))] [(m0, .inr (4, [.ref m1, .int (nI pn), .int (nI n), .int (th), .int (tt), .int (sr), .ref m2, .int (tp), .int (nI 0), .ref m3, .ref m4, .int (nI sdn), .ref m5, .int (ks), .int (kth), .int (ktt), .int (nI kh), .ref m6, .ref m7, .long (hs)])), (m1, .inl (cI, 20, .inl (mp))), (m2, .inl (cI, 24, .inl (mr))), (m3, .inl (cI, 24, .inl (mh))), (m4, .inl (cI, 12, .inl (mt))), (m5, .inl (cI, 24, .inl (mv))), (m6, .inl (cI, 24, .inl (mkr))), (m7, .inl (cI, 24, .inl (mkh)))] sz) 0 0 (va_A [(m0, .inr (4, [.ref m1, .int (nI pn), .int (nI n), .int (th), .int (tt), .int (sr), .ref m2, .int (tp), .int (nI h), .ref m3, .ref m4, .int (nI sdn), .ref m5, .int (ks), .int (kth), .int (ktt), .int (nI kh), .ref m6, .ref m7, .long (hs)])), (m1, .inl (cI, 20, .inl (mp))), (m2, .inl (cI, 24, .inl (mr))), (m3, .inl (cI, 24, .inl (mh))), (m4, .inl (cI, 12, .inl (mt))), (m5, .inl (cI, 24, .inl (mv))), (m6, .inl (cI, 24, .inl (mkr))), (m7, .inl (cI, 24, .inl (mkh)))] sz) := by
  refine Met.ofW (cc := cX5_forget) (maxL := 2) (ret := (some .int)) (by decide) rfl ?_
  intro p e s m args below meth co s₁ B hml hv
  obtain ⟨rfl, hsz, hP, hK, hD0⟩ := hv
  have hx := B.exec
  have hb := B.bytes
  have hr := B.returns
  have hts := atoms_spec (ws := wsX5_forget) B.pre
  have hown : s.vm.findClass RX5 = some m.cls := findClass_of_methodNamed B.named
  have hlocks := B.notSynchronized
  subst hsz
  have hD := hD0.self (sz := s.heap.size)
  generalize hAe : va_A [(m0, .inr (4, [.ref m1, .int (nI pn), .int (nI n), .int (th), .int (tt), .int (sr), .ref m2, .int (tp), .int (nI h), .ref m3, .ref m4, .int (nI sdn), .ref m5, .int (ks), .int (kth), .int (ktt), .int (nI kh), .ref m6, .ref m7, .long (hs)])), (m1, .inl (cI, 20, .inl (mp))), (m2, .inl (cI, 24, .inl (mr))), (m3, .inl (cI, 24, .inl (mh))), (m4, .inl (cI, 12, .inl (mt))), (m5, .inl (cI, 24, .inl (mv))), (m6, .inl (cI, 24, .inl (mkr))), (m7, .inl (cI, 24, .inl (mkh)))] s.heap.size = A at hD
  have hA : ∀ q : Nat, s.heap.size ≤ q → A q := fun q h => by rw [← hAe]; exact Or.inr h
  have hS : va_S A s.heap s.heap [] := va_S.rf
  have inX5 : ∀ w ∈ u_ws RX5 TX5 20, w ∈ wsX5_forget := by decide +kernel
  have lf69 := hts (.fieldLink RX5 69 "ThursdayRungsModel" "heardMany" "I") (by decide +kernel)
  have hl := lv_entry ([.ref m0]) (n := 2) (Nat.le_of_ble_eq_true rfl)
  rw [lg_entry_eq]
  generalize (lg_sl ([.ref m0]) ++ List.replicate (2 - (lg_sl ([.ref m0])).length) Slot.unset).toArray = ls at hl ⊢
  have hl : lv_has ls 2 [(0, .ref m0)] := hl
  have hP : va_P (dC, dI) vwCl [(m0, .inr (4, [.ref m1, .int (nI pn), .int (nI n), .int (th), .int (tt), .int (sr), .ref m2, .int (tp), .int (nI h), .ref m3, .ref m4, .int (nI sdn), .ref m5, .int (ks), .int (kth), .int (ktt), .int (nI kh), .ref m6, .ref m7, .long (hs)])), (m1, .inl (cI, 20, .inl (mp))), (m2, .inl (cI, 24, .inl (mr))), (m3, .inl (cI, 24, .inl (mh))), (m4, .inl (cI, 12, .inl (mt))), (m5, .inl (cI, 24, .inl (mv))), (m6, .inl (cI, 24, .inl (mkr))), (m7, .inl (cI, 24, .inl (mkh)))] s.heap := hP
  refine lv_aload_n hx hb dX5_forget_0 rfl (lv_at hl 0 rfl) ?_
  refine va_get (D := (dC, dI)) (ci := 4) (v := .int (nI h)) (C := RX5) (T := TX5) (N := 20) hx hb hts inX5 hown hK hP 0 rfl rfl 8 (by decide) lf69 (fun _ h9 => h9) rfl dX5_forget_1 ?_
  refine lv_istore_n (lv' := [(1, .int (nI h)), (0, .ref m0)]) hx hb dX5_forget_4 rfl hl (by decide) rfl (fun ls hl => ?_)
  refine lv_aload_n hx hb dX5_forget_5 rfl (lv_at hl 1 rfl) ?_
  refine lv_iconst (v := nI 0) hx hb dX5_forget_6 (by decide) ?_
  refine va_put (D := (dC, dI)) (ci := 4) (v := .int (nI 0)) (ty := .int) (C := RX5) (T := TX5) (N := 20) hx hb hts inX5 tyX5 tyX5_ok nmX5 hown hK hP hD hS 0 rfl rfl 8 (by decide) lf69 (fun _ h9 => h9) rfl (by decide +kernel) rfl rfl (Nat.le_of_ble_eq_true rfl) dX5_forget_7 (fun H locs hP hD hS => ?_)
  have hP : va_P (dC, dI) vwCl [(m0, .inr (4, [.ref m1, .int (nI pn), .int (nI n), .int (th), .int (tt), .int (sr), .ref m2, .int (tp), .int (nI 0), .ref m3, .ref m4, .int (nI sdn), .ref m5, .int (ks), .int (kth), .int (ktt), .int (nI kh), .ref m6, .ref m7, .long (hs)])), (m1, .inl (cI, 20, .inl (mp))), (m2, .inl (cI, 24, .inl (mr))), (m3, .inl (cI, 24, .inl (mh))), (m4, .inl (cI, 12, .inl (mt))), (m5, .inl (cI, 24, .inl (mv))), (m6, .inl (cI, 24, .inl (mkr))), (m7, .inl (cI, 24, .inl (mkh)))] H := hP
  have hD : va_D A [(m0, .inr (4, [.ref m1, .int (nI pn), .int (nI n), .int (th), .int (tt), .int (sr), .ref m2, .int (tp), .int (nI 0), .ref m3, .ref m4, .int (nI sdn), .ref m5, .int (ks), .int (kth), .int (ktt), .int (nI kh), .ref m6, .ref m7, .long (hs)])), (m1, .inl (cI, 20, .inl (mp))), (m2, .inl (cI, 24, .inl (mr))), (m3, .inl (cI, 24, .inl (mh))), (m4, .inl (cI, 12, .inl (mt))), (m5, .inl (cI, 24, .inl (mv))), (m6, .inl (cI, 24, .inl (mkr))), (m7, .inl (cI, 24, .inl (mkh)))] := hD
  refine lv_iload_n hx hb dX5_forget_10 rfl (lv_at hl 0 rfl) ?_
  have hP7 := hP.sub (ws' := [(m0, .inr (4, [.ref m1, .int (nI pn), .int (nI n), .int (th), .int (tt), .int (sr), .ref m2, .int (tp), .int (nI 0), .ref m3, .ref m4, .int (nI sdn), .ref m5, .int (ks), .int (kth), .int (ktt), .int (nI kh), .ref m6, .ref m7, .long (hs)])), (m1, .inl (cI, 20, .inl (mp))), (m2, .inl (cI, 24, .inl (mr))), (m3, .inl (cI, 24, .inl (mh))), (m4, .inl (cI, 12, .inl (mt))), (m5, .inl (cI, 24, .inl (mv))), (m6, .inl (cI, 24, .inl (mkr))), (m7, .inl (cI, 24, .inl (mkh)))]) [0, 1, 2, 3, 4, 5, 6, 7] rfl
  have hD7 := hD.sub (ws' := [(m0, .inr (4, [.ref m1, .int (nI pn), .int (nI n), .int (th), .int (tt), .int (sr), .ref m2, .int (tp), .int (nI 0), .ref m3, .ref m4, .int (nI sdn), .ref m5, .int (ks), .int (kth), .int (ktt), .int (nI kh), .ref m6, .ref m7, .long (hs)])), (m1, .inl (cI, 20, .inl (mp))), (m2, .inl (cI, 24, .inl (mr))), (m3, .inl (cI, 24, .inl (mh))), (m4, .inl (cI, 12, .inl (mt))), (m5, .inl (cI, 24, .inl (mv))), (m6, .inl (cI, 24, .inl (mkr))), (m7, .inl (cI, 24, .inl (mkh)))]) [0, 1, 2, 3, 4, 5, 6, 7] (by decide) rfl
  exact retWi hx hb hr hlocks rfl hP7 hD7 hS hAe dX5_forget_11
