set_option maxHeartbeats 1000000 in
set_option maxRecDepth 100000 in
theorem k_X5_faultOf (l : Launch) (dC : Nat → ClassId) (dI : Nat → Nat → Nat) (cI cZ : ClassId) (m0 m1 m2 m3 m4 m5 m6 m7 : Nat) (mp mr mh mt mv mkr mkh : Nat → Int32) (pn n h sdn kh : Nat) (th tt sr tp ks kth ktt : Int32) (hs : Int64) (hp : pn ≤ 20) : Met l yX5_faultOf wsX5_faultOf ({ frames := 2, cells := 0, slots := 0, locals := 46 }) (va_Pc [.ref m0] (PR (dC, dI) cI cZ [(m0, .inr (4, [.ref m1, .int (nI pn), .int (nI n), .int (th), .int (tt), .int (sr), .ref m2, .int (tp), .int (nI h), .ref m3, .ref m4, .int (nI sdn), .ref m5, .int (ks), .int (kth), .int (ktt), .int (nI kh), .ref m6, .ref m7, .long (hs)])), (m1, .inl (cI, 20, .inl (mp))), (m2, .inl (cI, 24, .inl (mr))), (m3, .inl (cI, 24, .inl (mh))), (m4, .inl (cI, 12, .inl (mt))), (m5, .inl (cI, 24, .inl (mv))), (m6, .inl (cI, 24, .inl (mkr))), (m7, .inl (cI, 24, .inl (mkh)))])) (QRi (nI (mf mp pn 0))) 0 0 noF := by
  refine Met.ofW (cc := cX5_faultOf) (maxL := 2) (ret := (some .int)) (by decide) rfl ?_
  intro p e s m args below meth co s₁ B hml hv
  obtain ⟨rfl, hP, hK⟩ := hv
  have hx := B.exec
  have hb := B.bytes
  have hr := B.returns
  have hts := atoms_spec (ws := wsX5_faultOf) B.pre
  have hown : s.vm.findClass RX5 = some m.cls := findClass_of_methodNamed B.named
  have hlocks := B.notSynchronized
  have inX5 : ∀ w ∈ u_ws RX5 TX5 20, w ∈ wsX5_faultOf := by decide +kernel
  have lf41 := hts (.fieldLink RX5 41 "ThursdayRungsModel" "pageMany" "I") (by decide +kernel)
  have lf7 := hts (.fieldLink RX5 7 "ThursdayRungsModel" "page" "[I") (by decide +kernel)
  have hl := lv_entry ([.ref m0]) (n := 2) (Nat.le_of_ble_eq_true rfl)
  rw [lg_entry_eq]
  generalize (lg_sl ([.ref m0]) ++ List.replicate (2 - (lg_sl ([.ref m0])).length) Slot.unset).toArray = ls at hl ⊢
  have hl : lv_has ls 2 [(0, .ref m0)] := hl
  refine lv_iconst (v := nI 0) hx hb dX5_faultOf_0 (by decide) ?_
  refine lv_istore_n (lv' := [(1, .int (nI 0)), (0, .ref m0)]) hx hb dX5_faultOf_1 rfl hl (by decide) rfl (fun ls hl => ?_)
  have lp2 : ∀ (fuel : Nat) (k : Nat), pn - k < fuel → (k ≤ pn) → (mf mp pn 0 = mf mp (pn - k) k) → ∀ (ls : Array Slot), lv_has ls 2 [(0, .ref m0), (1, .int (nI k))] → W p l e (headSpec wsX5_faultOf ({ frames := 2, cells := 0, slots := 0, locals := 46 })).room s m ([.ref m0] : List Value).toArray below meth co s.heap [] 0 0 (MQ below (QRi (nI (mf mp pn 0))) ([.ref m0] : List Value).toArray s 0 0 noF) (F0 m 2 ls []) := by
    intro fuel
    induction fuel with
    | zero => intro k h0; exact absurd h0 (Nat.not_lt_zero _)
    | succ fuel ih2 =>
      intro k hm_1 hk hL ls hl
      refine lv_iload_n hx hb dX5_faultOf_2 rfl (lv_at hl 1 rfl) ?_
      refine lv_aload_n hx hb dX5_faultOf_3 rfl (lv_at hl 0 rfl) ?_
      refine va_get (D := (dC, dI)) (ci := 4) (v := .int (nI pn)) (C := RX5) (T := TX5) (N := 20) hx hb hts inX5 hown hK hP 0 rfl rfl 1 (by decide) lf41 (fun _ h9 => h9) rfl dX5_faultOf_4 ?_
      refine w_ci_ge (tgt := 29) hx hb (by omega) (by omega) dX5_faultOf_7 (by decide) (fun c_2 => ?_) (fun c_2 => ?_)
      · skip
        refine lv_iload_n hx hb dX5_faultOf_29 rfl (lv_at hl 1 rfl) ?_
        exact retRi hx hb hr hlocks (by first | (rw [hL, show pn - k = 0 by omega]; rfl) | (rw [hL, show pn - k = (pn - (k + 1)) + 1 by omega, mf, if_neg c_2])) dX5_faultOf_30
      · skip
        refine lv_iload_n hx hb dX5_faultOf_10 rfl (lv_at hl 1 rfl) ?_
        refine lv_aload_n hx hb dX5_faultOf_11 rfl (lv_at hl 0 rfl) ?_
        refine va_get (D := (dC, dI)) (ci := 4) (v := .ref m1) (C := RX5) (T := TX5) (N := 20) hx hb hts inX5 hown hK hP 0 rfl rfl 0 (by decide) lf7 (fun _ h9 => h9) rfl dX5_faultOf_12 ?_
        refine lv_iload_n hx hb dX5_faultOf_15 rfl (lv_at hl 1 rfl) ?_
        refine w_iald (k := k) hx hb hK hP 1 0 rfl rfl (by omega) (by decide) dX5_faultOf_16 ?_
        have hPc := hP.sub (ws' := []) [] rfl
        refine callRi (v := (if (gdP k (mp k)) then nI 1 else nI 0)) (W.runS (As := [.int (nI k), .int (mp k)]) (rest := []) ⟨hx, hb, hml, hown, hts⟩ (k_X5_isGood l dC dI cI cZ (k) (mp k) (by first | omega | with_reducible assumption | (simp; omega))) (va_cwS 2 hts gX5_faultOf_X5_isGood rfl rfl rfl (by decide +kernel) ⟨Nat.le_of_ble_eq_true rfl, Nat.le_of_ble_eq_true rfl⟩) (preRS hK hPc) rfl rfl hl.1 rfl (lv_room (Nat.le_of_ble_eq_true rfl)) dX5_faultOf_17 ⟨Nat.zero_le _, Nat.zero_le _⟩) ?_
        refine w_ifeqB (tgt := 29) hx hb dX5_faultOf_20 (by decide) (fun c_3 => ?_) (fun c_3 => ?_)
        · skip
          refine lv_iload_n hx hb dX5_faultOf_29 rfl (lv_at hl 1 rfl) ?_
          exact retRi hx hb hr hlocks (by first | (rw [hL, show pn - k = 0 by omega]; rfl) | (rw [hL, show pn - k = (pn - (k + 1)) + 1 by omega, mf, if_neg c_3])) dX5_faultOf_30
        · skip
          refine lv_iinc (v := nI (k + 1)) (lv' := [(1, .int (nI (k + 1))), (0, .ref m0)]) hx hb dX5_faultOf_23 hl (k := 1) rfl w_inc1 (by decide) rfl (fun ls hl => ?_)
          refine lv_goto (tgt := 2) hx hb dX5_faultOf_26 (by decide) ?_
          exact ih2 (k + 1) (by omega) (by first | omega | with_reducible assumption | (first | with_reducible rfl | exact (if_pos (c_3)).symm | exact (if_neg (c_3)).symm | (simp [hp, hk, hL, c_2, c_3]; done) | omega | rfl)) (by rw [hL, show pn - k = (pn - (k + 1)) + 1 by omega, mf, if_pos c_3]) ls (lv_sub hl [1, 0] rfl)
  exact lp2 (pn - 0 + 1) (0) (Nat.lt_succ_self _) (by first | omega | with_reducible assumption | (first | with_reducible rfl | exact (if_pos (hp)).symm | exact (if_neg (hp)).symm | (simp [hp]; done) | omega | rfl)) (by rfl) ls (lv_sub hl [1, 0] rfl)
set_option maxHeartbeats 1000000 in
set_option maxRecDepth 100000 in
theorem k_X5_fault (l : Launch) (dC : Nat → ClassId) (dI : Nat → Nat → Nat) (cI cZ : ClassId) (m0 m1 m2 m3 m4 m5 m6 m7 : Nat) (mp mr mh mt mv mkr mkh : Nat → Int32) (pn n h sdn kh : Nat) (th tt sr tp ks kth ktt : Int32) (hs : Int64) (hp : pn ≤ 20) : Met l yX5_fault wsX5_fault ({ frames := 3, cells := 0, slots := 0, locals := 67 }) (va_Pc [.ref m0] (PR (dC, dI) cI cZ [(m0, .inr (4, [.ref m1, .int (nI pn), .int (nI n), .int (th), .int (tt), .int (sr), .ref m2, .int (tp), .int (nI h), .ref m3, .ref m4, .int (nI sdn), .ref m5, .int (ks), .int (kth), .int (ktt), .int (nI kh), .ref m6, .ref m7, .long (hs)])), (m1, .inl (cI, 20, .inl (mp))), (m2, .inl (cI, 24, .inl (mr))), (m3, .inl (cI, 24, .inl (mh))), (m4, .inl (cI, 12, .inl (mt))), (m5, .inl (cI, 24, .inl (mv))), (m6, .inl (cI, 24, .inl (mkr))), (m7, .inl (cI, 24, .inl (mkh)))])) (QRi (nI (mf mp pn 0))) 0 0 noF := by
  refine Met.ofW (cc := cX5_fault) (maxL := 1) (ret := (some .int)) (by decide) rfl ?_
  intro p e s m args below meth co s₁ B hml hv
  obtain ⟨rfl, hP, hK⟩ := hv
  have hx := B.exec
  have hb := B.bytes
  have hr := B.returns
  have hts := atoms_spec (ws := wsX5_fault) B.pre
  have hown : s.vm.findClass RX5 = some m.cls := findClass_of_methodNamed B.named
  have hlocks := B.notSynchronized
  have hl := lv_entry ([.ref m0]) (n := 1) (Nat.le_of_ble_eq_true rfl)
  rw [lg_entry_eq]
  generalize (lg_sl ([.ref m0]) ++ List.replicate (1 - (lg_sl ([.ref m0])).length) Slot.unset).toArray = ls at hl ⊢
  have hl : lv_has ls 1 [(0, .ref m0)] := hl
  refine lv_aload_n hx hb dX5_fault_0 rfl (lv_at hl 0 rfl) ?_
  have hPc := hP.sub (ws' := [(m0, .inr (4, [.ref m1, .int (nI pn), .int (nI n), .int (th), .int (tt), .int (sr), .ref m2, .int (tp), .int (nI h), .ref m3, .ref m4, .int (nI sdn), .ref m5, .int (ks), .int (kth), .int (ktt), .int (nI kh), .ref m6, .ref m7, .long (hs)])), (m1, .inl (cI, 20, .inl (mp))), (m2, .inl (cI, 24, .inl (mr))), (m3, .inl (cI, 24, .inl (mh))), (m4, .inl (cI, 12, .inl (mt))), (m5, .inl (cI, 24, .inl (mv))), (m6, .inl (cI, 24, .inl (mkr))), (m7, .inl (cI, 24, .inl (mkh)))]) [0, 1, 2, 3, 4, 5, 6, 7] rfl
  refine callRi (v := nI (mf mp pn 0)) (W.runV (As := []) (rest := []) ⟨hx, hb, hml, hown, hts⟩ (k_X5_faultOf l dC dI cI cZ m0 m1 m2 m3 m4 m5 m6 m7 (mp) (mr) (mh) (mt) (mv) (mkr) (mkh) (pn) (n) (h) (sdn) (kh) (th) (tt) (sr) (tp) (ks) (kth) (ktt) (hs) (by first | omega | with_reducible assumption | (simp; omega))) (cwV 0 hts gX5_fault_X5_faultOf rfl rfl rfl (by decide +kernel) ⟨Nat.le_of_ble_eq_true rfl, Nat.le_of_ble_eq_true rfl⟩) (preRV (q := (RX5, TX5, 20)) (ci := 4) hK hPc rfl rfl) rfl rfl hl.1 rfl (lv_room (Nat.le_of_ble_eq_true rfl)) dX5_fault_1 ⟨Nat.zero_le _, Nat.zero_le _⟩) ?_
  exact retRi hx hb hr hlocks rfl dX5_fault_4
