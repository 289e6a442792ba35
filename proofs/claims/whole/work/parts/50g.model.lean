set_option maxHeartbeats 1000000 in
set_option maxRecDepth 100000 in
theorem k_X5_knowing (l : Launch) (dC : Nat → ClassId) (dI : Nat → Nat → Nat) (cI cZ : ClassId) (m0 m1 m2 m3 m4 m5 m6 m7 : Nat) (mp mr mh mt mv mkr mkh : Nat → Int32) (pn n h sdn kh : Nat) (th tt sr tp ks kth ktt : Int32) (hs : Int64) (hn6 : n ≤ 6) : Met l yX5_knowing wsX5_knowing ({ frames := 0, cells := 0, slots := 0, locals := 0 }) (va_Pc [.ref m0] (PR (dC, dI) cI cZ [(m0, .inr (4, [.ref m1, .int (nI pn), .int (nI n), .int (th), .int (tt), .int (sr), .ref m2, .int (tp), .int (nI h), .ref m3, .ref m4, .int (nI sdn), .ref m5, .int (ks), .int (kth), .int (ktt), .int (nI kh), .ref m6, .ref m7, .long (hs)])), (m1, .inl (cI, 20, .inl (mp))), (m2, .inl (cI, 24, .inl (mr))), (m3, .inl (cI, 24, .inl (mh))), (m4, .inl (cI, 12, .inl (mt))), (m5, .inl (cI, 24, .inl (mv))), (m6, .inl (cI, 24, .inl (mkr))), (m7, .inl (cI, 24, .inl (mkh)))])) (QRi (nI (kwF (rN mr) n))) 0 0 noF := by
  refine Met.ofW (cc := cX5_knowing) (maxL := 3) (ret := (some .int)) (by decide) rfl ?_
  intro p e s m args below meth co s₁ B hml hv
  obtain ⟨rfl, hP, hK⟩ := hv
  have hx := B.exec
  have hb := B.bytes
  have hr := B.returns
  have hts := atoms_spec (ws := wsX5_knowing) B.pre
  have hown : s.vm.findClass RX5 = some m.cls := findClass_of_methodNamed B.named
  have hlocks := B.notSynchronized
  have inX5 : ∀ w ∈ u_ws RX5 TX5 20, w ∈ wsX5_knowing := by decide +kernel
  have lf13 := hts (.fieldLink RX5 13 "ThursdayRungsModel" "rows" "[I") (by decide +kernel)
  have lf60 := hts (.fieldLink RX5 60 "ThursdayRungsModel" "children" "I") (by decide +kernel)
  have hl := lv_entry ([.ref m0]) (n := 3) (Nat.le_of_ble_eq_true rfl)
  rw [lg_entry_eq]
  generalize (lg_sl ([.ref m0]) ++ List.replicate (3 - (lg_sl ([.ref m0])).length) Slot.unset).toArray = ls at hl ⊢
  have hl : lv_has ls 3 [(0, .ref m0)] := hl
  refine lv_iconst (v := nI 0) hx hb dX5_knowing_0 (by decide) ?_
  refine lv_istore_n (lv' := [(1, .int (nI 0)), (0, .ref m0)]) hx hb dX5_knowing_1 rfl hl (by decide) rfl (fun ls hl => ?_)
  refine lv_iconst (v := nI 0) hx hb dX5_knowing_2 (by decide) ?_
  refine lv_istore_n (lv' := [(2, .int (nI 0)), (1, .int (nI 0)), (0, .ref m0)]) hx hb dX5_knowing_3 rfl hl (by decide) rfl (fun ls hl => ?_)
  have lp4 : ∀ (fuel : Nat) (k : Nat), n - k < fuel → (k ≤ n) → ∀ (ls : Array Slot), lv_has ls 3 [(0, .ref m0), (1, .int (nI (kwF (rN mr) k))), (2, .int (nI k))] → W p l e (headSpec wsX5_knowing ({ frames := 0, cells := 0, slots := 0, locals := 0 })).room s m ([.ref m0] : List Value).toArray below meth co s.heap [] 0 0 (MQ below (QRi (nI (kwF (rN mr) n))) ([.ref m0] : List Value).toArray s 0 0 noF) (F0 m 4 ls []) := by
    intro fuel
    induction fuel with
    | zero => intro k h0; exact absurd h0 (Nat.not_lt_zero _)
    | succ fuel ih4 =>
      intro k hm_1 hk ls hl
      refine lv_iload_n hx hb dX5_knowing_4 rfl (lv_at hl 2 rfl) ?_
      refine lv_aload_n hx hb dX5_knowing_5 rfl (lv_at hl 0 rfl) ?_
      refine va_get (D := (dC, dI)) (ci := 4) (v := .int (nI n)) (C := RX5) (T := TX5) (N := 20) hx hb hts inX5 hown hK hP 0 rfl rfl 2 (by decide) lf60 (fun _ h9 => h9) rfl dX5_knowing_6 ?_
      refine w_ci_ge (tgt := 40) hx hb (by omega) (by omega) dX5_knowing_9 (by decide) (fun c_2 => ?_) (fun c_2 => ?_)
      · skip
        refine lv_iload_n hx hb dX5_knowing_40 rfl (lv_at hl 1 rfl) ?_
        exact retRi hx hb hr hlocks (by rw [show k = n by omega]) dX5_knowing_41
      · skip
        refine lv_iload_n hx hb dX5_knowing_12 rfl (lv_at hl 1 rfl) ?_
        refine lv_aload_n hx hb dX5_knowing_13 rfl (lv_at hl 0 rfl) ?_
        refine va_get (D := (dC, dI)) (ci := 4) (v := .ref m2) (C := RX5) (T := TX5) (N := 20) hx hb hts inX5 hown hK hP 0 rfl rfl 6 (by decide) lf13 (fun _ h9 => h9) rfl dX5_knowing_14 ?_
        refine lv_iconst (v := nI 4) hx hb dX5_knowing_17 (by decide) ?_
        refine lv_iload_n hx hb dX5_knowing_18 rfl (lv_at hl 2 rfl) ?_
        refine w_mulN hx hb dX5_knowing_19 ?_
        refine lv_iconst (v := nI 2) hx hb dX5_knowing_20 (by decide) ?_
        refine w_addN hx hb dX5_knowing_21 ?_
        refine w_iald (k := (4 * k) + 2) hx hb hK hP 2 0 rfl rfl (by omega) (by decide) dX5_knowing_22 ?_
        refine lv_iconst (v := -1) hx hb dX5_knowing_23 (by decide) ?_
        refine lv_icmp_ne (tgt := 31) hx hb dX5_knowing_24 (by decide) (fun c_3 => ?_) (fun c_3 => ?_)
        · skip
          refine lv_iconst (v := nI 1) hx hb dX5_knowing_31 (by decide) ?_
          refine w_addN hx hb dX5_knowing_32 ?_
          refine lv_istore_n (lv' := [(1, .int (nI ((kwF (rN mr) k) + 1))), (0, .ref m0), (2, .int (nI k))]) hx hb dX5_knowing_33 rfl hl (by decide) rfl (fun ls hl => ?_)
          refine lv_iinc (v := nI (k + 1)) (lv' := [(2, .int (nI (k + 1))), (1, .int (nI ((kwF (rN mr) k) + 1))), (0, .ref m0)]) hx hb dX5_knowing_34 hl (k := 2) rfl w_inc1 (by decide) rfl (fun ls hl => ?_)
          refine lv_goto (tgt := 4) hx hb dX5_knowing_37 (by decide) ?_
          have he_4 : (nI ((kwF (rN mr) k) + 1) : Int32) = nI (kwF (rN mr) (k + 1)) := by first | exact congrArg nI (if_pos c_3).symm | exact congrArg nI (if_neg c_3).symm
          have hl := lv_cong hl (show ([(2, .int (nI (k + 1))), (1, .int (nI ((kwF (rN mr) k) + 1))), (0, .ref m0)] : List (Nat × Value)) = [(2, .int (nI ((k + 1)))), (1, .int (nI (kwF (rN mr) (k + 1)))), (0, .ref m0)] by rw [← he_4])
          exact ih4 (k + 1) (by omega) (by first | omega | with_reducible assumption | (first | with_reducible rfl | exact (if_pos (c_3)).symm | exact (if_neg (c_3)).symm | (simp [hn6, hk, c_2, c_3]; done) | omega | rfl)) ls (lv_sub hl [2, 1, 0] rfl)
        · skip
          refine lv_iconst (v := nI 0) hx hb dX5_knowing_27 (by decide) ?_
          refine lv_goto (tgt := 32) hx hb dX5_knowing_28 (by decide) ?_
          refine w_addN hx hb dX5_knowing_32 ?_
          refine lv_istore_n (lv' := [(1, .int (nI ((kwF (rN mr) k) + 0))), (0, .ref m0), (2, .int (nI k))]) hx hb dX5_knowing_33 rfl hl (by decide) rfl (fun ls hl => ?_)
          refine lv_iinc (v := nI (k + 1)) (lv' := [(2, .int (nI (k + 1))), (1, .int (nI ((kwF (rN mr) k) + 0))), (0, .ref m0)]) hx hb dX5_knowing_34 hl (k := 2) rfl w_inc1 (by decide) rfl (fun ls hl => ?_)
          refine lv_goto (tgt := 4) hx hb dX5_knowing_37 (by decide) ?_
          have he_5 : (nI ((kwF (rN mr) k) + 0) : Int32) = nI (kwF (rN mr) (k + 1)) := by first | exact congrArg nI (if_pos c_3).symm | exact congrArg nI (if_neg c_3).symm
          have hl := lv_cong hl (show ([(2, .int (nI (k + 1))), (1, .int (nI ((kwF (rN mr) k) + 0))), (0, .ref m0)] : List (Nat × Value)) = [(2, .int (nI ((k + 1)))), (1, .int (nI (kwF (rN mr) (k + 1)))), (0, .ref m0)] by rw [← he_5])
          exact ih4 (k + 1) (by omega) (by first | omega | with_reducible assumption | (first | with_reducible rfl | exact (if_pos (c_3)).symm | exact (if_neg (c_3)).symm | (simp [hn6, hk, c_2, c_3]; done) | omega | rfl)) ls (lv_sub hl [2, 1, 0] rfl)
  have he_6 : (nI 0 : Int32) = nI (kwF (rN mr) 0) := by first | with_reducible rfl | exact (if_pos (hn6)).symm | exact (if_neg (hn6)).symm | (simp [hn6]; done) | omega | rfl
  have hl := lv_cong hl (show ([(2, .int (nI 0)), (1, .int (nI 0)), (0, .ref m0)] : List (Nat × Value)) = [(2, .int (nI 0)), (1, .int (nI (kwF (rN mr) 0))), (0, .ref m0)] by rw [← he_6])
  exact lp4 (n - 0 + 1) (0) (Nat.lt_succ_self _) (by first | omega | with_reducible assumption | (first | with_reducible rfl | exact (if_pos (hn6)).symm | exact (if_neg (hn6)).symm | (simp [hn6]; done) | omega | rfl)) ls (lv_sub hl [2, 1, 0] rfl)
set_option maxHeartbeats 1000000 in
set_option maxRecDepth 100000 in
theorem k_X5_illMany (l : Launch) (dC : Nat → ClassId) (dI : Nat → Nat → Nat) (cI cZ : ClassId) (m0 m1 m2 m3 m4 m5 m6 m7 : Nat) (mp mr mh mt mv mkr mkh : Nat → Int32) (pn n h sdn kh : Nat) (th tt sr tp ks kth ktt : Int32) (hs : Int64) (hn6 : n ≤ 6) (hI : GI (rI mr)) : Met l yX5_illMany wsX5_illMany ({ frames := 0, cells := 0, slots := 0, locals := 0 }) (va_Pc [.ref m0] (PR (dC, dI) cI cZ [(m0, .inr (4, [.ref m1, .int (nI pn), .int (nI n), .int (th), .int (tt), .int (sr), .ref m2, .int (tp), .int (nI h), .ref m3, .ref m4, .int (nI sdn), .ref m5, .int (ks), .int (kth), .int (ktt), .int (nI kh), .ref m6, .ref m7, .long (hs)])), (m1, .inl (cI, 20, .inl (mp))), (m2, .inl (cI, 24, .inl (mr))), (m3, .inl (cI, 24, .inl (mh))), (m4, .inl (cI, 12, .inl (mt))), (m5, .inl (cI, 24, .inl (mv))), (m6, .inl (cI, 24, .inl (mkr))), (m7, .inl (cI, 24, .inl (mkh)))])) (QRi (nI (ioF (rI mr) n))) 0 0 noF := by
  refine Met.ofW (cc := cX5_illMany) (maxL := 3) (ret := (some .int)) (by decide) rfl ?_
  intro p e s m args below meth co s₁ B hml hv
  obtain ⟨rfl, hP, hK⟩ := hv
  have hx := B.exec
  have hb := B.bytes
  have hr := B.returns
  have hts := atoms_spec (ws := wsX5_illMany) B.pre
  have hown : s.vm.findClass RX5 = some m.cls := findClass_of_methodNamed B.named
  have hlocks := B.notSynchronized
  have inX5 : ∀ w ∈ u_ws RX5 TX5 20, w ∈ wsX5_illMany := by decide +kernel
  have lf13 := hts (.fieldLink RX5 13 "ThursdayRungsModel" "rows" "[I") (by decide +kernel)
  have lf60 := hts (.fieldLink RX5 60 "ThursdayRungsModel" "children" "I") (by decide +kernel)
  have hl := lv_entry ([.ref m0]) (n := 3) (Nat.le_of_ble_eq_true rfl)
  rw [lg_entry_eq]
  generalize (lg_sl ([.ref m0]) ++ List.replicate (3 - (lg_sl ([.ref m0])).length) Slot.unset).toArray = ls at hl ⊢
  have hl : lv_has ls 3 [(0, .ref m0)] := hl
  refine lv_iconst (v := nI 0) hx hb dX5_illMany_0 (by decide) ?_
  refine lv_istore_n (lv' := [(1, .int (nI 0)), (0, .ref m0)]) hx hb dX5_illMany_1 rfl hl (by decide) rfl (fun ls hl => ?_)
  refine lv_iconst (v := nI 0) hx hb dX5_illMany_2 (by decide) ?_
  refine lv_istore_n (lv' := [(2, .int (nI 0)), (1, .int (nI 0)), (0, .ref m0)]) hx hb dX5_illMany_3 rfl hl (by decide) rfl (fun ls hl => ?_)
  have lp4 : ∀ (fuel : Nat) (k : Nat), n - k < fuel → (k ≤ n) → ∀ (ls : Array Slot), lv_has ls 3 [(0, .ref m0), (1, .int (nI (ioF (rI mr) k))), (2, .int (nI k))] → W p l e (headSpec wsX5_illMany ({ frames := 0, cells := 0, slots := 0, locals := 0 })).room s m ([.ref m0] : List Value).toArray below meth co s.heap [] 0 0 (MQ below (QRi (nI (ioF (rI mr) n))) ([.ref m0] : List Value).toArray s 0 0 noF) (F0 m 4 ls []) := by
    intro fuel
    induction fuel with
    | zero => intro k h0; exact absurd h0 (Nat.not_lt_zero _)
    | succ fuel ih4 =>
      intro k hm_1 hk ls hl
      refine lv_iload_n hx hb dX5_illMany_4 rfl (lv_at hl 2 rfl) ?_
      refine lv_aload_n hx hb dX5_illMany_5 rfl (lv_at hl 0 rfl) ?_
      refine va_get (D := (dC, dI)) (ci := 4) (v := .int (nI n)) (C := RX5) (T := TX5) (N := 20) hx hb hts inX5 hown hK hP 0 rfl rfl 2 (by decide) lf60 (fun _ h9 => h9) rfl dX5_illMany_6 ?_
      refine w_ci_ge (tgt := 31) hx hb (by omega) (by omega) dX5_illMany_9 (by decide) (fun c_2 => ?_) (fun c_2 => ?_)
      · skip
        refine lv_iload_n hx hb dX5_illMany_31 rfl (lv_at hl 1 rfl) ?_
        exact retRi hx hb hr hlocks (by rw [show k = n by omega]) dX5_illMany_32
      · skip
        refine lv_iload_n hx hb dX5_illMany_12 rfl (lv_at hl 1 rfl) ?_
        refine lv_aload_n hx hb dX5_illMany_13 rfl (lv_at hl 0 rfl) ?_
        refine va_get (D := (dC, dI)) (ci := 4) (v := .ref m2) (C := RX5) (T := TX5) (N := 20) hx hb hts inX5 hown hK hP 0 rfl rfl 6 (by decide) lf13 (fun _ h9 => h9) rfl dX5_illMany_14 ?_
        refine lv_iconst (v := nI 4) hx hb dX5_illMany_17 (by decide) ?_
        refine lv_iload_n hx hb dX5_illMany_18 rfl (lv_at hl 2 rfl) ?_
        refine w_mulN hx hb dX5_illMany_19 ?_
        refine lv_iconst (v := nI 3) hx hb dX5_illMany_20 (by decide) ?_
        refine w_addN hx hb dX5_illMany_21 ?_
        refine w_iald (k := (4 * k) + 3) hx hb hK hP 2 0 rfl rfl (by omega) (by decide) dX5_illMany_22 ?_
        refine lv_iadd hx hb dX5_illMany_23 ?_
        refine lv_istore_n (lv' := [(1, .int ((nI (ioF (rI mr) k)) + (mr ((4 * k) + 3)))), (0, .ref m0), (2, .int (nI k))]) hx hb dX5_illMany_24 rfl hl (by decide) rfl (fun ls hl => ?_)
        refine lv_iinc (v := nI (k + 1)) (lv' := [(2, .int (nI (k + 1))), (1, .int ((nI (ioF (rI mr) k)) + (mr ((4 * k) + 3)))), (0, .ref m0)]) hx hb dX5_illMany_25 hl (k := 2) rfl w_inc1 (by decide) rfl (fun ls hl => ?_)
        refine lv_goto (tgt := 4) hx hb dX5_illMany_28 (by decide) ?_
        have he_3 : ((nI (ioF (rI mr) k)) + (mr ((4 * k) + 3)) : Int32) = nI (ioF (rI mr) (k + 1)) := by exact io_step (hI k)
        have hl := lv_cong hl (show ([(2, .int (nI (k + 1))), (1, .int ((nI (ioF (rI mr) k)) + (mr ((4 * k) + 3)))), (0, .ref m0)] : List (Nat × Value)) = [(2, .int (nI ((k + 1)))), (1, .int (nI (ioF (rI mr) (k + 1)))), (0, .ref m0)] by rw [← he_3])
        exact ih4 (k + 1) (by omega) (by first | omega | with_reducible assumption | (first | with_reducible rfl | exact (if_pos (c_2)).symm | exact (if_neg (c_2)).symm | (simp [hn6, hI, hk, c_2]; done) | omega | rfl)) ls (lv_sub hl [2, 1, 0] rfl)
  have he_4 : (nI 0 : Int32) = nI (ioF (rI mr) 0) := by first | with_reducible rfl | exact (if_pos (hI)).symm | exact (if_neg (hI)).symm | (simp [hn6, hI]; done) | omega | rfl
  have hl := lv_cong hl (show ([(2, .int (nI 0)), (1, .int (nI 0)), (0, .ref m0)] : List (Nat × Value)) = [(2, .int (nI 0)), (1, .int (nI (ioF (rI mr) 0))), (0, .ref m0)] by rw [← he_4])
  exact lp4 (n - 0 + 1) (0) (Nat.lt_succ_self _) (by first | omega | with_reducible assumption | (first | with_reducible rfl | exact (if_pos (hI)).symm | exact (if_neg (hI)).symm | (simp [hn6, hI]; done) | omega | rfl)) ls (lv_sub hl [2, 1, 0] rfl)
set_option maxHeartbeats 1000000 in
set_option maxRecDepth 100000 in
theorem k_X5_soonOf (l : Launch) (dC : Nat → ClassId) (dI : Nat → Nat → Nat) (cI cZ : ClassId) (m0 m1 m2 m3 m4 m5 m6 m7 : Nat) (mp mr mh mt mv mkr mkh : Nat → Int32) (pn n h sdn kh : Nat) (th tt sr tp ks kth ktt : Int32) (hs : Int64) (hn1 : 1 ≤ n) (hn6 : n ≤ 6) (hI : GI (rI mr)) : Met l yX5_soonOf wsX5_soonOf ({ frames := 1, cells := 0, slots := 0, locals := 21 }) (va_Pc [.ref m0] (PR (dC, dI) cI cZ [(m0, .inr (4, [.ref m1, .int (nI pn), .int (nI n), .int (th), .int (tt), .int (sr), .ref m2, .int (tp), .int (nI h), .ref m3, .ref m4, .int (nI sdn), .ref m5, .int (ks), .int (kth), .int (ktt), .int (nI kh), .ref m6, .ref m7, .long (hs)])), (m1, .inl (cI, 20, .inl (mp))), (m2, .inl (cI, 24, .inl (mr))), (m3, .inl (cI, 24, .inl (mh))), (m4, .inl (cI, 12, .inl (mt))), (m5, .inl (cI, 24, .inl (mv))), (m6, .inl (cI, 24, .inl (mkr))), (m7, .inl (cI, 24, .inl (mkh)))])) (QRi ((ttF (rN mr) (rI mr) n))) 0 0 noF := by
  refine Met.ofW (cc := cX5_soonOf) (maxL := 2) (ret := (some .int)) (by decide) rfl ?_
  intro p e s m args below meth co s₁ B hml hv
  obtain ⟨rfl, hP, hK⟩ := hv
  have hx := B.exec
  have hb := B.bytes
  have hr := B.returns
  have hts := atoms_spec (ws := wsX5_soonOf) B.pre
  have hown : s.vm.findClass RX5 = some m.cls := findClass_of_methodNamed B.named
  have hlocks := B.notSynchronized
  have inX5 : ∀ w ∈ u_ws RX5 TX5 20, w ∈ wsX5_soonOf := by decide +kernel
  have lf13 := hts (.fieldLink RX5 13 "ThursdayRungsModel" "rows" "[I") (by decide +kernel)
  have lf60 := hts (.fieldLink RX5 60 "ThursdayRungsModel" "children" "I") (by decide +kernel)
  have hl := lv_entry ([.ref m0]) (n := 2) (Nat.le_of_ble_eq_true rfl)
  rw [lg_entry_eq]
  generalize (lg_sl ([.ref m0]) ++ List.replicate (2 - (lg_sl ([.ref m0])).length) Slot.unset).toArray = ls at hl ⊢
  have hl : lv_has ls 2 [(0, .ref m0)] := hl
  refine lv_aload_n hx hb dX5_soonOf_0 rfl (lv_at hl 0 rfl) ?_
  refine va_get (D := (dC, dI)) (ci := 4) (v := .ref m2) (C := RX5) (T := TX5) (N := 20) hx hb hts inX5 hown hK hP 0 rfl rfl 6 (by decide) lf13 (fun _ h9 => h9) rfl dX5_soonOf_1 ?_
  refine lv_iconst (v := nI 4) hx hb dX5_soonOf_4 (by decide) ?_
  refine lv_aload_n hx hb dX5_soonOf_5 rfl (lv_at hl 0 rfl) ?_
  refine va_get (D := (dC, dI)) (ci := 4) (v := .int (nI n)) (C := RX5) (T := TX5) (N := 20) hx hb hts inX5 hown hK hP 0 rfl rfl 2 (by decide) lf60 (fun _ h9 => h9) rfl dX5_soonOf_6 ?_
  refine w_mulN hx hb dX5_soonOf_9 ?_
  refine lv_iconst (v := nI 2) hx hb dX5_soonOf_10 (by decide) ?_
  refine w_subN hx hb (by omega) dX5_soonOf_11 ?_
  refine w_iald (k := (4 * n) - 2) hx hb hK hP 2 0 rfl rfl (by omega) (by decide) dX5_soonOf_12 ?_
  rw [show (mr ((4 * n) - 2) : Int32) = rN mr (n - 1) from congrArg mr (by omega)]
  refine lv_iconst (v := -1) hx hb dX5_soonOf_13 (by decide) ?_
  refine lv_icmp_eq (tgt := 19) hx hb dX5_soonOf_14 (by decide) (fun c_1 => ?_) (fun c_1 => ?_)
  · skip
    refine lv_aload_n hx hb dX5_soonOf_19 rfl (lv_at hl 0 rfl) ?_
    refine va_get (D := (dC, dI)) (ci := 4) (v := .int (nI n)) (C := RX5) (T := TX5) (N := 20) hx hb hts inX5 hown hK hP 0 rfl rfl 2 (by decide) lf60 (fun _ h9 => h9) rfl dX5_soonOf_20 ?_
    refine lv_iconst (v := nI 1) hx hb dX5_soonOf_23 (by decide) ?_
    refine w_subN hx hb (by omega) dX5_soonOf_24 ?_
    refine lv_istore_n (lv' := [(1, .int (nI (n - 1))), (0, .ref m0)]) hx hb dX5_soonOf_25 rfl hl (by decide) rfl (fun ls hl => ?_)
    have lp26 : ∀ (fuel : Nat) (j : Nat), j < fuel → (j ≤ n) → (((ttF (rN mr) (rI mr) n)) = soF (rN mr) (rI mr) n j) → ∀ (ls : Array Slot), lv_has ls 2 [(0, .ref m0), (1, .int ((dn j)))] → W p l e (headSpec wsX5_soonOf ({ frames := 1, cells := 0, slots := 0, locals := 21 })).room s m ([.ref m0] : List Value).toArray below meth co s.heap [] 0 0 (MQ below (QRi ((ttF (rN mr) (rI mr) n))) ([.ref m0] : List Value).toArray s 0 0 noF) (F0 m 26 ls []) := by
      intro fuel
      induction fuel with
      | zero => intro j h0; exact absurd h0 (Nat.not_lt_zero _)
      | succ fuel ih26 =>
        intro j hm_2 hj hL ls hl
        refine lv_iload_n hx hb dX5_soonOf_26 rfl (lv_at hl 1 rfl) ?_
        refine lv_if_lt (tgt := 67) hx hb dX5_soonOf_27 (by decide) (fun c_3 => ?_) (fun c_3 => ?_)
        · skip
          obtain rfl := dn_neg c_3 (by omega)
          refine lv_iconst (v := -1) hx hb dX5_soonOf_67 (by decide) ?_
          exact retRi hx hb hr hlocks (by first | (rw [hL]; exact (if_pos c_3).symm) | (rw [hL]; rfl)) dX5_soonOf_68
        · skip
          obtain ⟨i, rfl⟩ := dn_pos c_3 (by omega)
          rw [dn_s] at hl
          refine lv_aload_n hx hb dX5_soonOf_30 rfl (lv_at hl 0 rfl) ?_
          refine lv_iload_n hx hb dX5_soonOf_31 rfl (lv_at hl 1 rfl) ?_
          have hPc := hP.sub (ws' := [(m0, .inr (4, [.ref m1, .int (nI pn), .int (nI n), .int (th), .int (tt), .int (sr), .ref m2, .int (tp), .int (nI h), .ref m3, .ref m4, .int (nI sdn), .ref m5, .int (ks), .int (kth), .int (ktt), .int (nI kh), .ref m6, .ref m7, .long (hs)])), (m1, .inl (cI, 20, .inl (mp))), (m2, .inl (cI, 24, .inl (mr))), (m3, .inl (cI, 24, .inl (mh))), (m4, .inl (cI, 12, .inl (mt))), (m5, .inl (cI, 24, .inl (mv))), (m6, .inl (cI, 24, .inl (mkr))), (m7, .inl (cI, 24, .inl (mkh)))]) [0, 1, 2, 3, 4, 5, 6, 7] rfl
          refine callRi (v := (if (¬ rI mr i = nI 0) then nI 1 else nI 0)) (W.runV (As := [.int (nI i)]) (rest := []) ⟨hx, hb, hml, hown, hts⟩ (k_X5_isIll l dC dI cI cZ m0 m1 m2 m3 m4 m5 m6 m7 (mp) (mr) (mh) (mt) (mv) (mkr) (mkh) (pn) (n) (h) (sdn) (kh) (th) (tt) (sr) (tp) (ks) (kth) (ktt) (hs) (i) (by first | omega | with_reducible assumption | (simp; omega)) (by first | omega | with_reducible assumption | (simp; omega))) (cwV 1 hts gX5_soonOf_X5_isIll rfl rfl rfl (by decide +kernel) ⟨Nat.le_of_ble_eq_true rfl, Nat.le_of_ble_eq_true rfl⟩) (preRV (q := (RX5, TX5, 20)) (ci := 4) hK hPc rfl rfl) rfl rfl hl.1 rfl (lv_room (Nat.le_of_ble_eq_true rfl)) dX5_soonOf_32 ⟨Nat.zero_le _, Nat.zero_le _⟩) ?_
          refine w_ifneB (tgt := 67) hx hb dX5_soonOf_35 (by decide) (fun c_4 => ?_) (fun c_4 => ?_)
          · skip
            refine lv_iconst (v := -1) hx hb dX5_soonOf_67 (by decide) ?_
            exact retRi hx hb hr hlocks (by first | (rw [hL]; exact (if_pos c_4).symm) | (rw [hL]; rfl)) dX5_soonOf_68
          · skip
            refine lv_aload_n hx hb dX5_soonOf_38 rfl (lv_at hl 0 rfl) ?_
            refine va_get (D := (dC, dI)) (ci := 4) (v := .ref m2) (C := RX5) (T := TX5) (N := 20) hx hb hts inX5 hown hK hP 0 rfl rfl 6 (by decide) lf13 (fun _ h9 => h9) rfl dX5_soonOf_39 ?_
            refine lv_iconst (v := nI 4) hx hb dX5_soonOf_42 (by decide) ?_
            refine lv_iload_n hx hb dX5_soonOf_43 rfl (lv_at hl 1 rfl) ?_
            refine w_mulN hx hb dX5_soonOf_44 ?_
            refine lv_iconst (v := nI 2) hx hb dX5_soonOf_45 (by decide) ?_
            refine w_addN hx hb dX5_soonOf_46 ?_
            refine w_iald (k := (4 * i) + 2) hx hb hK hP 2 0 rfl rfl (by omega) (by decide) dX5_soonOf_47 ?_
            refine lv_iconst (v := -1) hx hb dX5_soonOf_48 (by decide) ?_
            refine lv_icmp_eq (tgt := 61) hx hb dX5_soonOf_49 (by decide) (fun c_5 => ?_) (fun c_5 => ?_)
            · skip
              refine lv_iinc (v := (nI i) + Int32.ofInt (-1)) (lv' := [(1, .int ((nI i) + Int32.ofInt (-1))), (0, .ref m0)]) hx hb dX5_soonOf_61 hl (k := 1) rfl rfl (by decide) rfl (fun ls hl => ?_)
              refine lv_goto (tgt := 26) hx hb dX5_soonOf_64 (by decide) ?_
              have he_6 : ((nI i) + Int32.ofInt (-1) : Int32) = (dn i) := by exact dn_b
              have hl := lv_cong hl (show ([(1, .int ((nI i) + Int32.ofInt (-1))), (0, .ref m0)] : List (Nat × Value)) = [(1, .int ((dn i))), (0, .ref m0)] by rw [← he_6])
              exact ih26 (i) (by omega) (by first | omega | with_reducible assumption | (first | with_reducible rfl | exact (if_pos (c_5)).symm | exact (if_neg (c_5)).symm | (simp [hn1, hn6, hI, c_1, hj, hL, c_3, c_4, c_5]; done) | omega | rfl)) (by rw [hL]; exact (if_neg c_4).trans (if_neg (not_not_intro c_5))) ls (lv_sub hl [1, 0] rfl)
            · skip
              refine lv_aload_n hx hb dX5_soonOf_52 rfl (lv_at hl 0 rfl) ?_
              refine va_get (D := (dC, dI)) (ci := 4) (v := .int (nI n)) (C := RX5) (T := TX5) (N := 20) hx hb hts inX5 hown hK hP 0 rfl rfl 2 (by decide) lf60 (fun _ h9 => h9) rfl dX5_soonOf_53 ?_
              refine lv_iconst (v := nI 1) hx hb dX5_soonOf_56 (by decide) ?_
              refine w_subN hx hb (by omega) dX5_soonOf_57 ?_
              refine lv_iload_n hx hb dX5_soonOf_58 rfl (lv_at hl 1 rfl) ?_
              refine w_subN hx hb (by omega) dX5_soonOf_59 ?_
              exact retRi hx hb hr hlocks (by rw [hL]; exact ((if_neg c_4).trans (if_pos c_5)).symm) dX5_soonOf_60
    have he_7 : (nI (n - 1) : Int32) = (dn n) := by exact dn_top (by omega)
    have hl := lv_cong hl (show ([(1, .int (nI (n - 1))), (0, .ref m0)] : List (Nat × Value)) = [(1, .int ((dn n))), (0, .ref m0)] by rw [← he_7])
    exact lp26 (n + 1) (n) (Nat.lt_succ_self _) (by first | omega | with_reducible assumption | (first | with_reducible rfl | exact (if_pos (c_1)).symm | exact (if_neg (c_1)).symm | (simp [hn1, hn6, hI, c_1]; done) | omega | rfl)) (by exact ttF_b hn1 c_1) ls (lv_sub hl [1, 0] rfl)
  · skip
    refine lv_iconst (v := nI 0) hx hb dX5_soonOf_17 (by decide) ?_
    exact retRi hx hb hr hlocks (by exact ttF_a hn1 c_1) dX5_soonOf_18
set_option maxHeartbeats 1000000 in
set_option maxRecDepth 100000 in
theorem k_X5_soon (l : Launch) (dC : Nat → ClassId) (dI : Nat → Nat → Nat) (cI cZ : ClassId) (m0 m1 m2 m3 m4 m5 m6 m7 : Nat) (mp mr mh mt mv mkr mkh : Nat → Int32) (pn n h sdn kh : Nat) (th tt sr tp ks kth ktt : Int32) (hs : Int64) (hn6 : n ≤ 6) (hI : GI (rI mr)) : Met l yX5_soon wsX5_soon ({ frames := 2, cells := 0, slots := 0, locals := 42 }) (va_Pc [.ref m0] (PR (dC, dI) cI cZ [(m0, .inr (4, [.ref m1, .int (nI pn), .int (nI n), .int (th), .int (tt), .int (sr), .ref m2, .int (tp), .int (nI h), .ref m3, .ref m4, .int (nI sdn), .ref m5, .int (ks), .int (kth), .int (ktt), .int (nI kh), .ref m6, .ref m7, .long (hs)])), (m1, .inl (cI, 20, .inl (mp))), (m2, .inl (cI, 24, .inl (mr))), (m3, .inl (cI, 24, .inl (mh))), (m4, .inl (cI, 12, .inl (mt))), (m5, .inl (cI, 24, .inl (mv))), (m6, .inl (cI, 24, .inl (mkr))), (m7, .inl (cI, 24, .inl (mkh)))])) (QRi ((soonA (rN mr) (rI mr) n))) 0 0 noF := by
  refine Met.ofW (cc := cX5_soon) (maxL := 1) (ret := (some .int)) (by decide) rfl ?_
  intro p e s m args below meth co s₁ B hml hv
  obtain ⟨rfl, hP, hK⟩ := hv
  have hx := B.exec
  have hb := B.bytes
  have hr := B.returns
  have hts := atoms_spec (ws := wsX5_soon) B.pre
  have hown : s.vm.findClass RX5 = some m.cls := findClass_of_methodNamed B.named
  have hlocks := B.notSynchronized
  have hl := lv_entry ([.ref m0]) (n := 1) (Nat.le_of_ble_eq_true rfl)
  rw [lg_entry_eq]
  generalize (lg_sl ([.ref m0]) ++ List.replicate (1 - (lg_sl ([.ref m0])).length) Slot.unset).toArray = ls at hl ⊢
  have hl : lv_has ls 1 [(0, .ref m0)] := hl
  refine lv_aload_n hx hb dX5_soon_0 rfl (lv_at hl 0 rfl) ?_
  have hPc := hP.sub (ws' := [(m0, .inr (4, [.ref m1, .int (nI pn), .int (nI n), .int (th), .int (tt), .int (sr), .ref m2, .int (tp), .int (nI h), .ref m3, .ref m4, .int (nI sdn), .ref m5, .int (ks), .int (kth), .int (ktt), .int (nI kh), .ref m6, .ref m7, .long (hs)])), (m1, .inl (cI, 20, .inl (mp))), (m2, .inl (cI, 24, .inl (mr))), (m3, .inl (cI, 24, .inl (mh))), (m4, .inl (cI, 12, .inl (mt))), (m5, .inl (cI, 24, .inl (mv))), (m6, .inl (cI, 24, .inl (mkr))), (m7, .inl (cI, 24, .inl (mkh)))]) [0, 1, 2, 3, 4, 5, 6, 7] rfl
  refine callRi (v := (if (n = 0) then nI 1 else nI 0)) (W.runV (As := []) (rest := []) ⟨hx, hb, hml, hown, hts⟩ (k_X5_lacks l dC dI cI cZ m0 m1 m2 m3 m4 m5 m6 m7 (mp) (mr) (mh) (mt) (mv) (mkr) (mkh) (pn) (n) (h) (sdn) (kh) (th) (tt) (sr) (tp) (ks) (kth) (ktt) (hs) (by first | omega | with_reducible assumption | (simp; omega))) (cwV 0 hts gX5_soon_X5_lacks rfl rfl rfl (by decide +kernel) ⟨Nat.le_of_ble_eq_true rfl, Nat.le_of_ble_eq_true rfl⟩) (preRV (q := (RX5, TX5, 20)) (ci := 4) hK hPc rfl rfl) rfl rfl hl.1 rfl (lv_room (Nat.le_of_ble_eq_true rfl)) dX5_soon_1 ⟨Nat.zero_le _, Nat.zero_le _⟩) ?_
  refine w_ifeqB (tgt := 12) hx hb dX5_soon_4 (by decide) (fun c_1 => ?_) (fun c_1 => ?_)
  · skip
    refine lv_aload_n hx hb dX5_soon_12 rfl (lv_at hl 0 rfl) ?_
    have hPc := hP.sub (ws' := [(m0, .inr (4, [.ref m1, .int (nI pn), .int (nI n), .int (th), .int (tt), .int (sr), .ref m2, .int (tp), .int (nI h), .ref m3, .ref m4, .int (nI sdn), .ref m5, .int (ks), .int (kth), .int (ktt), .int (nI kh), .ref m6, .ref m7, .long (hs)])), (m1, .inl (cI, 20, .inl (mp))), (m2, .inl (cI, 24, .inl (mr))), (m3, .inl (cI, 24, .inl (mh))), (m4, .inl (cI, 12, .inl (mt))), (m5, .inl (cI, 24, .inl (mv))), (m6, .inl (cI, 24, .inl (mkr))), (m7, .inl (cI, 24, .inl (mkh)))]) [0, 1, 2, 3, 4, 5, 6, 7] rfl
    refine callRi (v := (ttF (rN mr) (rI mr) n)) (W.runV (As := []) (rest := []) ⟨hx, hb, hml, hown, hts⟩ (k_X5_soonOf l dC dI cI cZ m0 m1 m2 m3 m4 m5 m6 m7 (mp) (mr) (mh) (mt) (mv) (mkr) (mkh) (pn) (n) (h) (sdn) (kh) (th) (tt) (sr) (tp) (ks) (kth) (ktt) (hs) (by first | omega | with_reducible assumption | (simp; omega)) (by first | omega | with_reducible assumption | (simp; omega)) (by first | omega | with_reducible assumption | (simp; omega))) (cwV 0 hts gX5_soon_X5_soonOf rfl rfl rfl (by decide +kernel) ⟨Nat.le_of_ble_eq_true rfl, Nat.le_of_ble_eq_true rfl⟩) (preRV (q := (RX5, TX5, 20)) (ci := 4) hK hPc rfl rfl) rfl rfl hl.1 rfl (lv_room (Nat.le_of_ble_eq_true rfl)) dX5_soon_13 ⟨Nat.zero_le _, Nat.zero_le _⟩) ?_
    exact retRi hx hb hr hlocks (by first | exact (if_pos c_1).symm | exact (if_neg c_1).symm) dX5_soon_16
  · skip
    refine lv_bipush (v := -103) hx hb dX5_soon_7 (by decide) ?_
    refine lv_goto (tgt := 16) hx hb dX5_soon_9 (by decide) ?_
    exact retRi hx hb hr hlocks (by first | exact (if_pos c_1).symm | exact (if_neg c_1).symm) dX5_soon_16
