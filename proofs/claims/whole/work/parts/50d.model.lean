set_option maxHeartbeats 1000000 in
set_option maxRecDepth 100000 in
theorem k_X5_teaches (l : Launch) (dC : Nat → ClassId) (dI : Nat → Nat → Nat) (cI cZ : ClassId) (m0 m1 m2 m3 m4 m5 m6 m7 : Nat) (mp mr mh mt mv mkr mkh : Nat → Int32) (pn n h sdn kh : Nat) (th tt sr tp ks kth ktt : Int32) (hs : Int64) (c : Int32) (r : Int32) (hn6 : n ≤ 6) (hS : GS (rS mr)) : Met l yX5_teaches wsX5_teaches ({ frames := 2, cells := 0, slots := 0, locals := 46 }) (va_Pc [.ref m0, .int (c), .int (r)] (PR (dC, dI) cI cZ [(m0, .inr (4, [.ref m1, .int (nI pn), .int (nI n), .int (th), .int (tt), .int (sr), .ref m2, .int (tp), .int (nI h), .ref m3, .ref m4, .int (nI sdn), .ref m5, .int (ks), .int (kth), .int (ktt), .int (nI kh), .ref m6, .ref m7, .long (hs)])), (m1, .inl (cI, 20, .inl (mp))), (m2, .inl (cI, 24, .inl (mr))), (m3, .inl (cI, 24, .inl (mh))), (m4, .inl (cI, 12, .inl (mt))), (m5, .inl (cI, 24, .inl (mv))), (m6, .inl (cI, 24, .inl (mkr))), (m7, .inl (cI, 24, .inl (mkh)))])) (QRi ((gd n c r (tb (rK mr (ix c)) (rS mr (ix c)) r)))) 0 0 noF := by
  refine Met.ofW (cc := cX5_teaches) (maxL := 3) (ret := (some .int)) (by decide) rfl ?_
  intro p e s m args below meth co s₁ B hml hv
  obtain ⟨rfl, hP, hK⟩ := hv
  have hx := B.exec
  have hb := B.bytes
  have hr := B.returns
  have hts := atoms_spec (ws := wsX5_teaches) B.pre
  have hown : s.vm.findClass RX5 = some m.cls := findClass_of_methodNamed B.named
  have hlocks := B.notSynchronized
  have hl := lv_entry ([.ref m0, .int (c), .int (r)]) (n := 3) (Nat.le_of_ble_eq_true rfl)
  rw [lg_entry_eq]
  generalize (lg_sl ([.ref m0, .int (c), .int (r)]) ++ List.replicate (3 - (lg_sl ([.ref m0, .int (c), .int (r)])).length) Slot.unset).toArray = ls at hl ⊢
  have hl : lv_has ls 3 [(0, .ref m0), (1, .int (c)), (2, .int (r))] := hl
  refine lv_aload_n hx hb dX5_teaches_0 rfl (lv_at hl 0 rfl) ?_
  refine lv_iload_n hx hb dX5_teaches_1 rfl (lv_at hl 1 rfl) ?_
  have hPc := hP.sub (ws' := [(m0, .inr (4, [.ref m1, .int (nI pn), .int (nI n), .int (th), .int (tt), .int (sr), .ref m2, .int (tp), .int (nI h), .ref m3, .ref m4, .int (nI sdn), .ref m5, .int (ks), .int (kth), .int (ktt), .int (nI kh), .ref m6, .ref m7, .long (hs)])), (m1, .inl (cI, 20, .inl (mp))), (m2, .inl (cI, 24, .inl (mr))), (m3, .inl (cI, 24, .inl (mh))), (m4, .inl (cI, 12, .inl (mt))), (m5, .inl (cI, 24, .inl (mv))), (m6, .inl (cI, 24, .inl (mkr))), (m7, .inl (cI, 24, .inl (mkh)))]) [0, 1, 2, 3, 4, 5, 6, 7] rfl
  refine callRi (v := (if (inR n c) then nI 1 else nI 0)) (W.runV (As := [.int (c)]) (rest := []) ⟨hx, hb, hml, hown, hts⟩ (k_X5_isChild l dC dI cI cZ m0 m1 m2 m3 m4 m5 m6 m7 (mp) (mr) (mh) (mt) (mv) (mkr) (mkh) (pn) (n) (h) (sdn) (kh) (th) (tt) (sr) (tp) (ks) (kth) (ktt) (hs) (c) (by first | omega | with_reducible assumption | (simp; omega))) (cwV 1 hts gX5_teaches_X5_isChild rfl rfl rfl (by decide +kernel) ⟨Nat.le_of_ble_eq_true rfl, Nat.le_of_ble_eq_true rfl⟩) (preRV (q := (RX5, TX5, 20)) (ci := 4) hK hPc rfl rfl) rfl rfl hl.1 rfl (lv_room (Nat.le_of_ble_eq_true rfl)) dX5_teaches_2 ⟨Nat.zero_le _, Nat.zero_le _⟩) ?_
  refine w_ifneB (tgt := 11) hx hb dX5_teaches_5 (by decide) (fun c_1 => ?_) (fun c_1 => ?_)
  · skip
    obtain ⟨k, hk, rfl⟩ := inR_of c_1
    refine lv_iload_n hx hb dX5_teaches_11 rfl (lv_at hl 2 rfl) ?_
    have hPc := hP.sub (ws' := []) [] rfl
    refine callRi (v := (if (inR 12 r) then nI 1 else nI 0)) (W.runS (As := [.int (r)]) (rest := []) ⟨hx, hb, hml, hown, hts⟩ (k_X5_isRule l dC dI cI cZ (r)) (va_cwS 1 hts gX5_teaches_X5_isRule rfl rfl rfl (by decide +kernel) ⟨Nat.le_of_ble_eq_true rfl, Nat.le_of_ble_eq_true rfl⟩) (preRS hK hPc) rfl rfl hl.1 rfl (lv_room (Nat.le_of_ble_eq_true rfl)) dX5_teaches_12 ⟨Nat.zero_le _, Nat.zero_le _⟩) ?_
    refine w_ifeqB (tgt := 27) hx hb dX5_teaches_15 (by decide) (fun c_2 => ?_) (fun c_2 => ?_)
    · skip
      refine lv_bipush (v := -102) hx hb dX5_teaches_27 (by decide) ?_
      exact retRi hx hb hr hlocks (by first | (rw [gd_yes hk (by omega) hq, ix_nI (show k < 2147483648 by omega)]) | (unfold gd; rw [if_pos (inR_nI hk (by omega)), if_neg c_2])) dX5_teaches_29
    · skip
      obtain ⟨q, hq, rfl⟩ := inR_of c_2
      refine lv_aload_n hx hb dX5_teaches_18 rfl (lv_at hl 0 rfl) ?_
      refine lv_iload_n hx hb dX5_teaches_19 rfl (lv_at hl 1 rfl) ?_
      refine lv_iload_n hx hb dX5_teaches_20 rfl (lv_at hl 2 rfl) ?_
      have hPc := hP.sub (ws' := [(m0, .inr (4, [.ref m1, .int (nI pn), .int (nI n), .int (th), .int (tt), .int (sr), .ref m2, .int (tp), .int (nI h), .ref m3, .ref m4, .int (nI sdn), .ref m5, .int (ks), .int (kth), .int (ktt), .int (nI kh), .ref m6, .ref m7, .long (hs)])), (m1, .inl (cI, 20, .inl (mp))), (m2, .inl (cI, 24, .inl (mr))), (m3, .inl (cI, 24, .inl (mh))), (m4, .inl (cI, 12, .inl (mt))), (m5, .inl (cI, 24, .inl (mv))), (m6, .inl (cI, 24, .inl (mkr))), (m7, .inl (cI, 24, .inl (mkh)))]) [0, 1, 2, 3, 4, 5, 6, 7] rfl
      refine callRi (v := (tb (rK mr k) (rS mr k) (nI q))) (W.runV (As := [.int (nI k), .int (nI q)]) (rest := []) ⟨hx, hb, hml, hown, hts⟩ (k_X5_teachesOf l dC dI cI cZ m0 m1 m2 m3 m4 m5 m6 m7 (mp) (mr) (mh) (mt) (mv) (mkr) (mkh) (pn) (n) (h) (sdn) (kh) (th) (tt) (sr) (tp) (ks) (kth) (ktt) (hs) (k) (nI q) (by first | omega | with_reducible assumption | (simp; omega)) (by first | omega | with_reducible assumption | (simp; omega)) (⟨q, hq, rfl⟩)) (cwV 2 hts gX5_teaches_X5_teachesOf rfl rfl rfl (by decide +kernel) ⟨Nat.le_of_ble_eq_true rfl, Nat.le_of_ble_eq_true rfl⟩) (preRV (q := (RX5, TX5, 20)) (ci := 4) hK hPc rfl rfl) rfl rfl hl.1 rfl (lv_room (Nat.le_of_ble_eq_true rfl)) dX5_teaches_21 ⟨Nat.zero_le _, Nat.zero_le _⟩) ?_
      refine lv_goto (tgt := 29) hx hb dX5_teaches_24 (by decide) ?_
      exact retRi hx hb hr hlocks (by first | (rw [gd_yes hk (by omega) hq, ix_nI (show k < 2147483648 by omega)]) | (unfold gd; rw [if_pos (inR_nI hk (by omega)), if_neg hq])) dX5_teaches_29
  · skip
    refine lv_bipush (v := -101) hx hb dX5_teaches_8 (by decide) ?_
    exact retRi hx hb hr hlocks (by unfold gd; rw [if_neg c_1]) dX5_teaches_10
set_option maxHeartbeats 1000000 in
set_option maxRecDepth 100000 in
theorem k_X5_arrives (l : Launch) (dC : Nat → ClassId) (dI : Nat → Nat → Nat) (cI cZ : ClassId) (m0 m1 m2 m3 m4 m5 m6 m7 : Nat) (mp mr mh mt mv mkr mkh : Nat → Int32) (pn n h sdn kh : Nat) (th tt sr tp ks kth ktt : Int32) (hs : Int64) (c : Int32) (r : Int32) (hn6 : n ≤ 6) (hS : GS (rS mr)) : Met l yX5_arrives wsX5_arrives ({ frames := 3, cells := 0, slots := 0, locals := 69 }) (va_Pc [.ref m0, .int (c), .int (r)] (PR (dC, dI) cI cZ [(m0, .inr (4, [.ref m1, .int (nI pn), .int (nI n), .int (th), .int (tt), .int (sr), .ref m2, .int (tp), .int (nI h), .ref m3, .ref m4, .int (nI sdn), .ref m5, .int (ks), .int (kth), .int (ktt), .int (nI kh), .ref m6, .ref m7, .long (hs)])), (m1, .inl (cI, 20, .inl (mp))), (m2, .inl (cI, 24, .inl (mr))), (m3, .inl (cI, 24, .inl (mh))), (m4, .inl (cI, 12, .inl (mt))), (m5, .inl (cI, 24, .inl (mv))), (m6, .inl (cI, 24, .inl (mkr))), (m7, .inl (cI, 24, .inl (mkh)))])) (QRi ((gd n c r (atF (rK mr) (rS mr) (ix c) (n - 1 - ix c) r)))) 0 0 noF := by
  refine Met.ofW (cc := cX5_arrives) (maxL := 3) (ret := (some .int)) (by decide) rfl ?_
  intro p e s m args below meth co s₁ B hml hv
  obtain ⟨rfl, hP, hK⟩ := hv
  have hx := B.exec
  have hb := B.bytes
  have hr := B.returns
  have hts := atoms_spec (ws := wsX5_arrives) B.pre
  have hown : s.vm.findClass RX5 = some m.cls := findClass_of_methodNamed B.named
  have hlocks := B.notSynchronized
  have hl := lv_entry ([.ref m0, .int (c), .int (r)]) (n := 3) (Nat.le_of_ble_eq_true rfl)
  rw [lg_entry_eq]
  generalize (lg_sl ([.ref m0, .int (c), .int (r)]) ++ List.replicate (3 - (lg_sl ([.ref m0, .int (c), .int (r)])).length) Slot.unset).toArray = ls at hl ⊢
  have hl : lv_has ls 3 [(0, .ref m0), (1, .int (c)), (2, .int (r))] := hl
  refine lv_aload_n hx hb dX5_arrives_0 rfl (lv_at hl 0 rfl) ?_
  refine lv_iload_n hx hb dX5_arrives_1 rfl (lv_at hl 1 rfl) ?_
  have hPc := hP.sub (ws' := [(m0, .inr (4, [.ref m1, .int (nI pn), .int (nI n), .int (th), .int (tt), .int (sr), .ref m2, .int (tp), .int (nI h), .ref m3, .ref m4, .int (nI sdn), .ref m5, .int (ks), .int (kth), .int (ktt), .int (nI kh), .ref m6, .ref m7, .long (hs)])), (m1, .inl (cI, 20, .inl (mp))), (m2, .inl (cI, 24, .inl (mr))), (m3, .inl (cI, 24, .inl (mh))), (m4, .inl (cI, 12, .inl (mt))), (m5, .inl (cI, 24, .inl (mv))), (m6, .inl (cI, 24, .inl (mkr))), (m7, .inl (cI, 24, .inl (mkh)))]) [0, 1, 2, 3, 4, 5, 6, 7] rfl
  refine callRi (v := (if (inR n c) then nI 1 else nI 0)) (W.runV (As := [.int (c)]) (rest := []) ⟨hx, hb, hml, hown, hts⟩ (k_X5_isChild l dC dI cI cZ m0 m1 m2 m3 m4 m5 m6 m7 (mp) (mr) (mh) (mt) (mv) (mkr) (mkh) (pn) (n) (h) (sdn) (kh) (th) (tt) (sr) (tp) (ks) (kth) (ktt) (hs) (c) (by first | omega | with_reducible assumption | (simp; omega))) (cwV 1 hts gX5_arrives_X5_isChild rfl rfl rfl (by decide +kernel) ⟨Nat.le_of_ble_eq_true rfl, Nat.le_of_ble_eq_true rfl⟩) (preRV (q := (RX5, TX5, 20)) (ci := 4) hK hPc rfl rfl) rfl rfl hl.1 rfl (lv_room (Nat.le_of_ble_eq_true rfl)) dX5_arrives_2 ⟨Nat.zero_le _, Nat.zero_le _⟩) ?_
  refine w_ifneB (tgt := 11) hx hb dX5_arrives_5 (by decide) (fun c_1 => ?_) (fun c_1 => ?_)
  · skip
    obtain ⟨k, hk, rfl⟩ := inR_of c_1
    refine lv_iload_n hx hb dX5_arrives_11 rfl (lv_at hl 2 rfl) ?_
    have hPc := hP.sub (ws' := []) [] rfl
    refine callRi (v := (if (inR 12 r) then nI 1 else nI 0)) (W.runS (As := [.int (r)]) (rest := []) ⟨hx, hb, hml, hown, hts⟩ (k_X5_isRule l dC dI cI cZ (r)) (va_cwS 1 hts gX5_arrives_X5_isRule rfl rfl rfl (by decide +kernel) ⟨Nat.le_of_ble_eq_true rfl, Nat.le_of_ble_eq_true rfl⟩) (preRS hK hPc) rfl rfl hl.1 rfl (lv_room (Nat.le_of_ble_eq_true rfl)) dX5_arrives_12 ⟨Nat.zero_le _, Nat.zero_le _⟩) ?_
    refine w_ifeqB (tgt := 27) hx hb dX5_arrives_15 (by decide) (fun c_2 => ?_) (fun c_2 => ?_)
    · skip
      refine lv_bipush (v := -102) hx hb dX5_arrives_27 (by decide) ?_
      exact retRi hx hb hr hlocks (by first | (rw [gd_yes hk (by omega) hq, ix_nI (show k < 2147483648 by omega)]) | (unfold gd; rw [if_pos (inR_nI hk (by omega)), if_neg c_2])) dX5_arrives_29
    · skip
      obtain ⟨q, hq, rfl⟩ := inR_of c_2
      refine lv_aload_n hx hb dX5_arrives_18 rfl (lv_at hl 0 rfl) ?_
      refine lv_iload_n hx hb dX5_arrives_19 rfl (lv_at hl 1 rfl) ?_
      refine lv_iload_n hx hb dX5_arrives_20 rfl (lv_at hl 2 rfl) ?_
      have hPc := hP.sub (ws' := [(m0, .inr (4, [.ref m1, .int (nI pn), .int (nI n), .int (th), .int (tt), .int (sr), .ref m2, .int (tp), .int (nI h), .ref m3, .ref m4, .int (nI sdn), .ref m5, .int (ks), .int (kth), .int (ktt), .int (nI kh), .ref m6, .ref m7, .long (hs)])), (m1, .inl (cI, 20, .inl (mp))), (m2, .inl (cI, 24, .inl (mr))), (m3, .inl (cI, 24, .inl (mh))), (m4, .inl (cI, 12, .inl (mt))), (m5, .inl (cI, 24, .inl (mv))), (m6, .inl (cI, 24, .inl (mkr))), (m7, .inl (cI, 24, .inl (mkh)))]) [0, 1, 2, 3, 4, 5, 6, 7] rfl
      refine callRi (v := (atF (rK mr) (rS mr) k (n - 1 - k) (nI q))) (W.runV (As := [.int (nI k), .int (nI q)]) (rest := []) ⟨hx, hb, hml, hown, hts⟩ (k_X5_arrivesOf l dC dI cI cZ m0 m1 m2 m3 m4 m5 m6 m7 (mp) (mr) (mh) (mt) (mv) (mkr) (mkh) (pn) (n) (h) (sdn) (kh) (th) (tt) (sr) (tp) (ks) (kth) (ktt) (hs) (k) (nI q) (by first | omega | with_reducible assumption | (simp; omega)) (by first | omega | with_reducible assumption | (simp; omega)) (by first | omega | with_reducible assumption | (simp; omega)) (by first | omega | with_reducible assumption | (simp; omega)) (⟨q, hq, rfl⟩)) (cwV 2 hts gX5_arrives_X5_arrivesOf rfl rfl rfl (by decide +kernel) ⟨Nat.le_of_ble_eq_true rfl, Nat.le_of_ble_eq_true rfl⟩) (preRV (q := (RX5, TX5, 20)) (ci := 4) hK hPc rfl rfl) rfl rfl hl.1 rfl (lv_room (Nat.le_of_ble_eq_true rfl)) dX5_arrives_21 ⟨Nat.zero_le _, Nat.zero_le _⟩) ?_
      refine lv_goto (tgt := 29) hx hb dX5_arrives_24 (by decide) ?_
      exact retRi hx hb hr hlocks (by first | (rw [gd_yes hk (by omega) hq, ix_nI (show k < 2147483648 by omega)]) | (unfold gd; rw [if_pos (inR_nI hk (by omega)), if_neg hq])) dX5_arrives_29
  · skip
    refine lv_bipush (v := -101) hx hb dX5_arrives_8 (by decide) ?_
    exact retRi hx hb hr hlocks (by unfold gd; rw [if_neg c_1]) dX5_arrives_10
set_option maxHeartbeats 1000000 in
set_option maxRecDepth 100000 in
theorem k_X5_from (l : Launch) (dC : Nat → ClassId) (dI : Nat → Nat → Nat) (cI cZ : ClassId) (m0 m1 m2 m3 m4 m5 m6 m7 : Nat) (mp mr mh mt mv mkr mkh : Nat → Int32) (pn n h sdn kh : Nat) (th tt sr tp ks kth ktt : Int32) (hs : Int64) (c : Int32) (r : Int32) (hn6 : n ≤ 6) (hS : GS (rS mr)) : Met l yX5_from wsX5_from ({ frames := 4, cells := 0, slots := 0, locals := 93 }) (va_Pc [.ref m0, .int (c), .int (r)] (PR (dC, dI) cI cZ [(m0, .inr (4, [.ref m1, .int (nI pn), .int (nI n), .int (th), .int (tt), .int (sr), .ref m2, .int (tp), .int (nI h), .ref m3, .ref m4, .int (nI sdn), .ref m5, .int (ks), .int (kth), .int (ktt), .int (nI kh), .ref m6, .ref m7, .long (hs)])), (m1, .inl (cI, 20, .inl (mp))), (m2, .inl (cI, 24, .inl (mr))), (m3, .inl (cI, 24, .inl (mh))), (m4, .inl (cI, 12, .inl (mt))), (m5, .inl (cI, 24, .inl (mv))), (m6, .inl (cI, 24, .inl (mkr))), (m7, .inl (cI, 24, .inl (mkh)))])) (QRi ((gd n c r (srcF (fun q9 => atF (rK mr) (rS mr) (ix c) (n - 1 - ix c) (nI q9)) r 12)))) 0 0 noF := by
  refine Met.ofW (cc := cX5_from) (maxL := 3) (ret := (some .int)) (by decide) rfl ?_
  intro p e s m args below meth co s₁ B hml hv
  obtain ⟨rfl, hP, hK⟩ := hv
  have hx := B.exec
  have hb := B.bytes
  have hr := B.returns
  have hts := atoms_spec (ws := wsX5_from) B.pre
  have hown : s.vm.findClass RX5 = some m.cls := findClass_of_methodNamed B.named
  have hlocks := B.notSynchronized
  have hl := lv_entry ([.ref m0, .int (c), .int (r)]) (n := 3) (Nat.le_of_ble_eq_true rfl)
  rw [lg_entry_eq]
  generalize (lg_sl ([.ref m0, .int (c), .int (r)]) ++ List.replicate (3 - (lg_sl ([.ref m0, .int (c), .int (r)])).length) Slot.unset).toArray = ls at hl ⊢
  have hl : lv_has ls 3 [(0, .ref m0), (1, .int (c)), (2, .int (r))] := hl
  refine lv_aload_n hx hb dX5_from_0 rfl (lv_at hl 0 rfl) ?_
  refine lv_iload_n hx hb dX5_from_1 rfl (lv_at hl 1 rfl) ?_
  have hPc := hP.sub (ws' := [(m0, .inr (4, [.ref m1, .int (nI pn), .int (nI n), .int (th), .int (tt), .int (sr), .ref m2, .int (tp), .int (nI h), .ref m3, .ref m4, .int (nI sdn), .ref m5, .int (ks), .int (kth), .int (ktt), .int (nI kh), .ref m6, .ref m7, .long (hs)])), (m1, .inl (cI, 20, .inl (mp))), (m2, .inl (cI, 24, .inl (mr))), (m3, .inl (cI, 24, .inl (mh))), (m4, .inl (cI, 12, .inl (mt))), (m5, .inl (cI, 24, .inl (mv))), (m6, .inl (cI, 24, .inl (mkr))), (m7, .inl (cI, 24, .inl (mkh)))]) [0, 1, 2, 3, 4, 5, 6, 7] rfl
  refine callRi (v := (if (inR n c) then nI 1 else nI 0)) (W.runV (As := [.int (c)]) (rest := []) ⟨hx, hb, hml, hown, hts⟩ (k_X5_isChild l dC dI cI cZ m0 m1 m2 m3 m4 m5 m6 m7 (mp) (mr) (mh) (mt) (mv) (mkr) (mkh) (pn) (n) (h) (sdn) (kh) (th) (tt) (sr) (tp) (ks) (kth) (ktt) (hs) (c) (by first | omega | with_reducible assumption | (simp; omega))) (cwV 1 hts gX5_from_X5_isChild rfl rfl rfl (by decide +kernel) ⟨Nat.le_of_ble_eq_true rfl, Nat.le_of_ble_eq_true rfl⟩) (preRV (q := (RX5, TX5, 20)) (ci := 4) hK hPc rfl rfl) rfl rfl hl.1 rfl (lv_room (Nat.le_of_ble_eq_true rfl)) dX5_from_2 ⟨Nat.zero_le _, Nat.zero_le _⟩) ?_
  refine w_ifneB (tgt := 11) hx hb dX5_from_5 (by decide) (fun c_1 => ?_) (fun c_1 => ?_)
  · skip
    obtain ⟨k, hk, rfl⟩ := inR_of c_1
    refine lv_iload_n hx hb dX5_from_11 rfl (lv_at hl 2 rfl) ?_
    have hPc := hP.sub (ws' := []) [] rfl
    refine callRi (v := (if (inR 12 r) then nI 1 else nI 0)) (W.runS (As := [.int (r)]) (rest := []) ⟨hx, hb, hml, hown, hts⟩ (k_X5_isRule l dC dI cI cZ (r)) (va_cwS 1 hts gX5_from_X5_isRule rfl rfl rfl (by decide +kernel) ⟨Nat.le_of_ble_eq_true rfl, Nat.le_of_ble_eq_true rfl⟩) (preRS hK hPc) rfl rfl hl.1 rfl (lv_room (Nat.le_of_ble_eq_true rfl)) dX5_from_12 ⟨Nat.zero_le _, Nat.zero_le _⟩) ?_
    refine w_ifeqB (tgt := 27) hx hb dX5_from_15 (by decide) (fun c_2 => ?_) (fun c_2 => ?_)
    · skip
      refine lv_bipush (v := -102) hx hb dX5_from_27 (by decide) ?_
      exact retRi hx hb hr hlocks (by first | (rw [gd_yes hk (by omega) hq, ix_nI (show k < 2147483648 by omega)]) | (unfold gd; rw [if_pos (inR_nI hk (by omega)), if_neg c_2])) dX5_from_29
    · skip
      obtain ⟨q, hq, rfl⟩ := inR_of c_2
      refine lv_aload_n hx hb dX5_from_18 rfl (lv_at hl 0 rfl) ?_
      refine lv_iload_n hx hb dX5_from_19 rfl (lv_at hl 1 rfl) ?_
      refine lv_iload_n hx hb dX5_from_20 rfl (lv_at hl 2 rfl) ?_
      have hPc := hP.sub (ws' := [(m0, .inr (4, [.ref m1, .int (nI pn), .int (nI n), .int (th), .int (tt), .int (sr), .ref m2, .int (tp), .int (nI h), .ref m3, .ref m4, .int (nI sdn), .ref m5, .int (ks), .int (kth), .int (ktt), .int (nI kh), .ref m6, .ref m7, .long (hs)])), (m1, .inl (cI, 20, .inl (mp))), (m2, .inl (cI, 24, .inl (mr))), (m3, .inl (cI, 24, .inl (mh))), (m4, .inl (cI, 12, .inl (mt))), (m5, .inl (cI, 24, .inl (mv))), (m6, .inl (cI, 24, .inl (mkr))), (m7, .inl (cI, 24, .inl (mkh)))]) [0, 1, 2, 3, 4, 5, 6, 7] rfl
      refine callRi (v := (srcF (fun r9 => atF (rK mr) (rS mr) k (n - 1 - k) (nI r9)) (nI q) 12)) (W.runV (As := [.int (nI k), .int (nI q)]) (rest := []) ⟨hx, hb, hml, hown, hts⟩ (k_X5_fromOf l dC dI cI cZ m0 m1 m2 m3 m4 m5 m6 m7 (mp) (mr) (mh) (mt) (mv) (mkr) (mkh) (pn) (n) (h) (sdn) (kh) (th) (tt) (sr) (tp) (ks) (kth) (ktt) (hs) (k) (nI q) (by first | omega | with_reducible assumption | (simp; omega)) (by first | omega | with_reducible assumption | (simp; omega)) (by first | omega | with_reducible assumption | (simp; omega)) (by first | omega | with_reducible assumption | (simp; omega))) (cwV 2 hts gX5_from_X5_fromOf rfl rfl rfl (by decide +kernel) ⟨Nat.le_of_ble_eq_true rfl, Nat.le_of_ble_eq_true rfl⟩) (preRV (q := (RX5, TX5, 20)) (ci := 4) hK hPc rfl rfl) rfl rfl hl.1 rfl (lv_room (Nat.le_of_ble_eq_true rfl)) dX5_from_21 ⟨Nat.zero_le _, Nat.zero_le _⟩) ?_
      refine lv_goto (tgt := 29) hx hb dX5_from_24 (by decide) ?_
      exact retRi hx hb hr hlocks (by first | (rw [gd_yes hk (by omega) hq, ix_nI (show k < 2147483648 by omega)]) | (unfold gd; rw [if_pos (inR_nI hk (by omega)), if_neg hq])) dX5_from_29
  · skip
    refine lv_bipush (v := -101) hx hb dX5_from_8 (by decide) ?_
    exact retRi hx hb hr hlocks (by unfold gd; rw [if_neg c_1]) dX5_from_10
