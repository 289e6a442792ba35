set_option maxHeartbeats 1000000 in
set_option maxRecDepth 100000 in
theorem k_X5_arrivesOf (l : Launch) (dC : Nat → ClassId) (dI : Nat → Nat → Nat) (cI cZ : ClassId) (m0 m1 m2 m3 m4 m5 m6 m7 : Nat) (mp mr mh mt mv mkr mkh : Nat → Int32) (pn n h sdn kh : Nat) (th tt sr tp ks kth ktt : Int32) (hs : Int64) (c : Nat) (r : Int32) (hn1 : 1 ≤ n) (hn6 : n ≤ 6) (hc : c < n) (hS : GS (rS mr)) (hr2 : ∃ q, q < 12 ∧ r = nI q) : Met l yX5_arrivesOf wsX5_arrivesOf ({ frames := 2, cells := 0, slots := 0, locals := 45 }) (va_Pc [.ref m0, .int (nI c), .int (r)] (PR (dC, dI) cI cZ [(m0, .inr (4, [.ref m1, .int (nI pn), .int (nI n), .int (th), .int (tt), .int (sr), .ref m2, .int (tp), .int (nI h), .ref m3, .ref m4, .int (nI sdn), .ref m5, .int (ks), .int (kth), .int (ktt), .int (nI kh), .ref m6, .ref m7, .long (hs)])), (m1, .inl (cI, 20, .inl (mp))), (m2, .inl (cI, 24, .inl (mr))), (m3, .inl (cI, 24, .inl (mh))), (m4, .inl (cI, 12, .inl (mt))), (m5, .inl (cI, 24, .inl (mv))), (m6, .inl (cI, 24, .inl (mkr))), (m7, .inl (cI, 24, .inl (mkh)))])) (QRi ((atF (rK mr) (rS mr) c (n - 1 - c) r))) 0 0 noF := by
  refine Met.ofW (cc := cX5_arrivesOf) (maxL := 5) (ret := (some .int)) (by decide) rfl ?_
  intro p e s m args below meth co s₁ B hml hv
  obtain ⟨rfl, hP, hK⟩ := hv
  have hx := B.exec
  have hb := B.bytes
  have hr := B.returns
  have hts := atoms_spec (ws := wsX5_arrivesOf) B.pre
  have hown : s.vm.findClass RX5 = some m.cls := findClass_of_methodNamed B.named
  have hlocks := B.notSynchronized
  have inX5 : ∀ w ∈ u_ws RX5 TX5 20, w ∈ wsX5_arrivesOf := by decide +kernel
  have lf60 := hts (.fieldLink RX5 60 "ThursdayRungsModel" "children" "I") (by decide +kernel)
  have hl := lv_entry ([.ref m0, .int (nI c), .int (r)]) (n := 5) (Nat.le_of_ble_eq_true rfl)
  rw [lg_entry_eq]
  generalize (lg_sl ([.ref m0, .int (nI c), .int (r)]) ++ List.replicate (5 - (lg_sl ([.ref m0, .int (nI c), .int (r)])).length) Slot.unset).toArray = ls at hl ⊢
  have hl : lv_has ls 5 [(0, .ref m0), (1, .int (nI c)), (2, .int (r))] := hl
  refine lv_iload_n hx hb dX5_arrivesOf_0 rfl (lv_at hl 2 rfl) ?_
  refine lv_istore_n (lv' := [(3, .int (r)), (0, .ref m0), (1, .int (nI c)), (2, .int (r))]) hx hb dX5_arrivesOf_1 rfl hl (by decide) rfl (fun ls hl => ?_)
  refine lv_iload_n hx hb dX5_arrivesOf_2 rfl (lv_at hl 2 rfl) ?_
  refine lv_istore (lv' := [(4, .int (nI c)), (3, .int (r)), (0, .ref m0), (1, .int (nI c)), (2, .int (r))]) hx hb dX5_arrivesOf_3 hl (by decide) rfl (fun ls hl => ?_)
  have lp5 : ∀ (fuel : Nat) (k : Nat) (v : Int32), n - k < fuel → (c ≤ k ∧ k ≤ n - 1) → (∃ q, q < 12 ∧ v = nI q) → (((atF (rK mr) (rS mr) c (n - 1 - c) r)) = atF (rK mr) (rS mr) k (n - 1 - k) v) → ∀ (ls : Array Slot), lv_has ls 5 [(0, .ref m0), (1, .int (nI c)), (2, .int (r)), (3, .int (v)), (4, .int (nI k))] → W p l e (headSpec wsX5_arrivesOf ({ frames := 2, cells := 0, slots := 0, locals := 45 })).room s m ([.ref m0, .int (nI c), .int (r)] : List Value).toArray below meth co s.heap [] 0 0 (MQ below (QRi ((atF (rK mr) (rS mr) c (n - 1 - c) r))) ([.ref m0, .int (nI c), .int (r)] : List Value).toArray s 0 0 noF) (F0 m 5 ls []) := by
    intro fuel
    induction fuel with
    | zero => intro k v h0; exact absurd h0 (Nat.not_lt_zero _)
    | succ fuel ih5 =>
      intro k v hm_1 hk hv hL ls hl
      refine lv_iload hx hb dX5_arrivesOf_5 (lv_at hl 4 rfl) ?_
      refine lv_aload_n hx hb dX5_arrivesOf_7 rfl (lv_at hl 0 rfl) ?_
      refine va_get (D := (dC, dI)) (ci := 4) (v := .int (nI n)) (C := RX5) (T := TX5) (N := 20) hx hb hts inX5 hown hK hP 0 rfl rfl 2 (by decide) lf60 (fun _ h9 => h9) rfl dX5_arrivesOf_8 ?_
      refine lv_iconst (v := nI 1) hx hb dX5_arrivesOf_11 (by decide) ?_
      refine w_subN hx hb (by omega) dX5_arrivesOf_12 ?_
      refine w_ci_ge (tgt := 30) hx hb (by omega) (by omega) dX5_arrivesOf_13 (by decide) (fun c_2 => ?_) (fun c_2 => ?_)
      · skip
        refine lv_iload_n hx hb dX5_arrivesOf_30 rfl (lv_at hl 3 rfl) ?_
        exact retRi hx hb hr hlocks (by rw [hL, show n - 1 - k = 0 by omega]; rfl) dX5_arrivesOf_31
      · skip
        refine lv_aload_n hx hb dX5_arrivesOf_16 rfl (lv_at hl 0 rfl) ?_
        refine lv_iload hx hb dX5_arrivesOf_17 (lv_at hl 4 rfl) ?_
        refine lv_iload_n hx hb dX5_arrivesOf_19 rfl (lv_at hl 3 rfl) ?_
        have hPc := hP.sub (ws' := [(m0, .inr (4, [.ref m1, .int (nI pn), .int (nI n), .int (th), .int (tt), .int (sr), .ref m2, .int (tp), .int (nI h), .ref m3, .ref m4, .int (nI sdn), .ref m5, .int (ks), .int (kth), .int (ktt), .int (nI kh), .ref m6, .ref m7, .long (hs)])), (m1, .inl (cI, 20, .inl (mp))), (m2, .inl (cI, 24, .inl (mr))), (m3, .inl (cI, 24, .inl (mh))), (m4, .inl (cI, 12, .inl (mt))), (m5, .inl (cI, 24, .inl (mv))), (m6, .inl (cI, 24, .inl (mkr))), (m7, .inl (cI, 24, .inl (mkh)))]) [0, 1, 2, 3, 4, 5, 6, 7] rfl
        refine callRi (v := (tb (rK mr k) (rS mr k) v)) (W.runV (As := [.int (nI k), .int (v)]) (rest := []) ⟨hx, hb, hml, hown, hts⟩ (k_X5_teachesOf l dC dI cI cZ m0 m1 m2 m3 m4 m5 m6 m7 (mp) (mr) (mh) (mt) (mv) (mkr) (mkh) (pn) (n) (h) (sdn) (kh) (th) (tt) (sr) (tp) (ks) (kth) (ktt) (hs) (k) (v) (by first | omega | with_reducible assumption | (simp; omega)) (by first | omega | with_reducible assumption | (simp; omega)) (hv)) (cwV 2 hts gX5_arrivesOf_X5_teachesOf rfl rfl rfl (by decide +kernel) ⟨Nat.le_of_ble_eq_true rfl, Nat.le_of_ble_eq_true rfl⟩) (preRV (q := (RX5, TX5, 20)) (ci := 4) hK hPc rfl rfl) rfl rfl hl.1 rfl (lv_room (Nat.le_of_ble_eq_true rfl)) dX5_arrivesOf_20 ⟨Nat.zero_le _, Nat.zero_le _⟩) ?_
        refine lv_istore_n (lv' := [(3, .int ((tb (rK mr k) (rS mr k) v))), (0, .ref m0), (1, .int (nI c)), (2, .int (r)), (4, .int (nI k))]) hx hb dX5_arrivesOf_23 rfl hl (by decide) rfl (fun ls hl => ?_)
        refine lv_iinc (v := nI (k + 1)) (lv' := [(4, .int (nI (k + 1))), (3, .int ((tb (rK mr k) (rS mr k) v))), (0, .ref m0), (1, .int (nI c)), (2, .int (r))]) hx hb dX5_arrivesOf_24 hl (k := 4) rfl w_inc1 (by decide) rfl (fun ls hl => ?_)
        refine lv_goto (tgt := 5) hx hb dX5_arrivesOf_27 (by decide) ?_
        exact ih5 (k + 1) ((tb (rK mr k) (rS mr k) v)) (by omega) (by first | omega | with_reducible assumption | (first | with_reducible rfl | exact (if_pos (c_2)).symm | exact (if_neg (c_2)).symm | (simp [hn1, hn6, hc, hS, hr2, hk, hv, hL, c_2]; done) | omega | rfl)) (by exact tb_R (hS k) hv) (by rw [hL, show n - 1 - k = (n - 1 - (k + 1)) + 1 by omega, atF]) ls (lv_sub hl [2, 3, 4, 1, 0] rfl)
  exact lp5 (n - c + 1) (c) (r) (Nat.lt_succ_self _) (by first | omega | with_reducible assumption | (first | with_reducible rfl | exact (if_pos (hr2)).symm | exact (if_neg (hr2)).symm | (simp [hn1, hn6, hc, hS, hr2]; done) | omega | rfl)) (by exact hr2) (by rfl) ls (lv_sub hl [2, 3, 4, 1, 0] rfl)
set_option maxHeartbeats 1000000 in
set_option maxRecDepth 100000 in
theorem k_X5_fromOf (l : Launch) (dC : Nat → ClassId) (dI : Nat → Nat → Nat) (cI cZ : ClassId) (m0 m1 m2 m3 m4 m5 m6 m7 : Nat) (mp mr mh mt mv mkr mkh : Nat → Int32) (pn n h sdn kh : Nat) (th tt sr tp ks kth ktt : Int32) (hs : Int64) (c : Nat) (x : Int32) (hn1 : 1 ≤ n) (hn6 : n ≤ 6) (hc : c < n) (hS : GS (rS mr)) : Met l yX5_fromOf wsX5_fromOf ({ frames := 3, cells := 0, slots := 0, locals := 69 }) (va_Pc [.ref m0, .int (nI c), .int (x)] (PR (dC, dI) cI cZ [(m0, .inr (4, [.ref m1, .int (nI pn), .int (nI n), .int (th), .int (tt), .int (sr), .ref m2, .int (tp), .int (nI h), .ref m3, .ref m4, .int (nI sdn), .ref m5, .int (ks), .int (kth), .int (ktt), .int (nI kh), .ref m6, .ref m7, .long (hs)])), (m1, .inl (cI, 20, .inl (mp))), (m2, .inl (cI, 24, .inl (mr))), (m3, .inl (cI, 24, .inl (mh))), (m4, .inl (cI, 12, .inl (mt))), (m5, .inl (cI, 24, .inl (mv))), (m6, .inl (cI, 24, .inl (mkr))), (m7, .inl (cI, 24, .inl (mkh)))])) (QRi ((srcF (fun r9 => atF (rK mr) (rS mr) c (n - 1 - c) (nI r9)) x 12))) 0 0 noF := by
  refine Met.ofW (cc := cX5_fromOf) (maxL := 5) (ret := (some .int)) (by decide) rfl ?_
  intro p e s m args below meth co s₁ B hml hv
  obtain ⟨rfl, hP, hK⟩ := hv
  have hx := B.exec
  have hb := B.bytes
  have hr := B.returns
  have hts := atoms_spec (ws := wsX5_fromOf) B.pre
  have hown : s.vm.findClass RX5 = some m.cls := findClass_of_methodNamed B.named
  have hlocks := B.notSynchronized
  have hl := lv_entry ([.ref m0, .int (nI c), .int (x)]) (n := 5) (Nat.le_of_ble_eq_true rfl)
  rw [lg_entry_eq]
  generalize (lg_sl ([.ref m0, .int (nI c), .int (x)]) ++ List.replicate (5 - (lg_sl ([.ref m0, .int (nI c), .int (x)])).length) Slot.unset).toArray = ls at hl ⊢
  have hl : lv_has ls 5 [(0, .ref m0), (1, .int (nI c)), (2, .int (x))] := hl
  refine lv_iconst (v := nI 0) hx hb dX5_fromOf_0 (by decide) ?_
  refine lv_istore_n (lv' := [(3, .int (nI 0)), (0, .ref m0), (1, .int (nI c)), (2, .int (x))]) hx hb dX5_fromOf_1 rfl hl (by decide) rfl (fun ls hl => ?_)
  refine lv_iconst (v := nI 0) hx hb dX5_fromOf_2 (by decide) ?_
  refine lv_istore (lv' := [(4, .int (nI 0)), (3, .int (nI 0)), (0, .ref m0), (1, .int (nI c)), (2, .int (x))]) hx hb dX5_fromOf_3 hl (by decide) rfl (fun ls hl => ?_)
  have lp5 : ∀ (fuel : Nat) (k : Nat), 12 - k < fuel → (k ≤ 12) → ∀ (ls : Array Slot), lv_has ls 5 [(0, .ref m0), (1, .int (nI c)), (2, .int (x)), (3, .int ((srcF (fun r9 => atF (rK mr) (rS mr) c (n - 1 - c) (nI r9)) x k))), (4, .int (nI k))] → W p l e (headSpec wsX5_fromOf ({ frames := 3, cells := 0, slots := 0, locals := 69 })).room s m ([.ref m0, .int (nI c), .int (x)] : List Value).toArray below meth co s.heap [] 0 0 (MQ below (QRi ((srcF (fun r9 => atF (rK mr) (rS mr) c (n - 1 - c) (nI r9)) x 12))) ([.ref m0, .int (nI c), .int (x)] : List Value).toArray s 0 0 noF) (F0 m 5 ls []) := by
    intro fuel
    induction fuel with
    | zero => intro k h0; exact absurd h0 (Nat.not_lt_zero _)
    | succ fuel ih5 =>
      intro k hm_1 hk ls hl
      refine lv_iload hx hb dX5_fromOf_5 (lv_at hl 4 rfl) ?_
      refine lv_bipush (v := nI 12) hx hb dX5_fromOf_7 (by decide) ?_
      refine w_ci_ge (tgt := 40) hx hb (by omega) (by omega) dX5_fromOf_9 (by decide) (fun c_2 => ?_) (fun c_2 => ?_)
      · skip
        refine lv_iload_n hx hb dX5_fromOf_40 rfl (lv_at hl 3 rfl) ?_
        exact retRi hx hb hr hlocks (by rw [show k = 12 by omega]) dX5_fromOf_41
      · skip
        refine lv_iload_n hx hb dX5_fromOf_12 rfl (lv_at hl 3 rfl) ?_
        refine lv_aload_n hx hb dX5_fromOf_13 rfl (lv_at hl 0 rfl) ?_
        refine lv_iload_n hx hb dX5_fromOf_14 rfl (lv_at hl 1 rfl) ?_
        refine lv_iload hx hb dX5_fromOf_15 (lv_at hl 4 rfl) ?_
        have hPc := hP.sub (ws' := [(m0, .inr (4, [.ref m1, .int (nI pn), .int (nI n), .int (th), .int (tt), .int (sr), .ref m2, .int (tp), .int (nI h), .ref m3, .ref m4, .int (nI sdn), .ref m5, .int (ks), .int (kth), .int (ktt), .int (nI kh), .ref m6, .ref m7, .long (hs)])), (m1, .inl (cI, 20, .inl (mp))), (m2, .inl (cI, 24, .inl (mr))), (m3, .inl (cI, 24, .inl (mh))), (m4, .inl (cI, 12, .inl (mt))), (m5, .inl (cI, 24, .inl (mv))), (m6, .inl (cI, 24, .inl (mkr))), (m7, .inl (cI, 24, .inl (mkh)))]) [0, 1, 2, 3, 4, 5, 6, 7] rfl
        refine callRi (v := (atF (rK mr) (rS mr) c (n - 1 - c) (nI k))) (W.runV (As := [.int (nI c), .int (nI k)]) (rest := [.int ((srcF (fun r9 => atF (rK mr) (rS mr) c (n - 1 - c) (nI r9)) x k))]) ⟨hx, hb, hml, hown, hts⟩ (k_X5_arrivesOf l dC dI cI cZ m0 m1 m2 m3 m4 m5 m6 m7 (mp) (mr) (mh) (mt) (mv) (mkr) (mkh) (pn) (n) (h) (sdn) (kh) (th) (tt) (sr) (tp) (ks) (kth) (ktt) (hs) (c) (nI k) (by first | omega | with_reducible assumption | (simp; omega)) (by first | omega | with_reducible assumption | (simp; omega)) (by first | omega | with_reducible assumption | (simp; omega)) (by first | omega | with_reducible assumption | (simp; omega)) (⟨k, by omega, rfl⟩)) (cwV 2 hts gX5_fromOf_X5_arrivesOf rfl rfl rfl (by decide +kernel) ⟨Nat.le_of_ble_eq_true rfl, Nat.le_of_ble_eq_true rfl⟩) (preRV (q := (RX5, TX5, 20)) (ci := 4) hK hPc rfl rfl) rfl rfl hl.1 rfl (lv_room (Nat.le_of_ble_eq_true rfl)) dX5_fromOf_17 ⟨Nat.zero_le _, Nat.zero_le _⟩) ?_
        refine lv_iload_n hx hb dX5_fromOf_20 rfl (lv_at hl 2 rfl) ?_
        refine lv_icmp_ne (tgt := 31) hx hb dX5_fromOf_21 (by decide) (fun c_3 => ?_) (fun c_3 => ?_)
        · skip
          refine lv_iconst (v := nI 0) hx hb dX5_fromOf_31 (by decide) ?_
          refine lv_ior hx hb dX5_fromOf_32 ?_
          refine lv_istore_n (lv' := [(3, .int (((srcF (fun r9 => atF (rK mr) (rS mr) c (n - 1 - c) (nI r9)) x k)) ||| (nI 0))), (0, .ref m0), (1, .int (nI c)), (2, .int (x)), (4, .int (nI k))]) hx hb dX5_fromOf_33 rfl hl (by decide) rfl (fun ls hl => ?_)
          refine lv_iinc (v := nI (k + 1)) (lv' := [(4, .int (nI (k + 1))), (3, .int (((srcF (fun r9 => atF (rK mr) (rS mr) c (n - 1 - c) (nI r9)) x k)) ||| (nI 0))), (0, .ref m0), (1, .int (nI c)), (2, .int (x))]) hx hb dX5_fromOf_34 hl (k := 4) rfl w_inc1 (by decide) rfl (fun ls hl => ?_)
          refine lv_goto (tgt := 5) hx hb dX5_fromOf_37 (by decide) ?_
          have he_4 : (((srcF (fun r9 => atF (rK mr) (rS mr) c (n - 1 - c) (nI r9)) x k)) ||| (nI 0) : Int32) = (srcF (fun r9 => atF (rK mr) (rS mr) c (n - 1 - c) (nI r9)) x (k + 1)) := by first | exact (if_pos c_3).symm | exact Int32.or_zero.trans (if_neg c_3).symm
          have hl := lv_cong hl (show ([(4, .int (nI (k + 1))), (3, .int (((srcF (fun r9 => atF (rK mr) (rS mr) c (n - 1 - c) (nI r9)) x k)) ||| (nI 0))), (0, .ref m0), (1, .int (nI c)), (2, .int (x))] : List (Nat × Value)) = [(4, .int (nI ((k + 1)))), (3, .int ((srcF (fun r9 => atF (rK mr) (rS mr) c (n - 1 - c) (nI r9)) x (k + 1)))), (0, .ref m0), (1, .int (nI c)), (2, .int (x))] by rw [← he_4])
          exact ih5 (k + 1) (by omega) (by first | omega | with_reducible assumption | (first | with_reducible rfl | exact (if_pos (c_3)).symm | exact (if_neg (c_3)).symm | (simp [hn1, hn6, hc, hS, hk, c_2, c_3]; done) | omega | rfl)) ls (lv_sub hl [2, 3, 4, 1, 0] rfl)
        · skip
          refine lv_iconst (v := nI 1) hx hb dX5_fromOf_24 (by decide) ?_
          refine lv_iload hx hb dX5_fromOf_25 (lv_at hl 4 rfl) ?_
          refine lv_ishl hx hb dX5_fromOf_27 ?_
          refine lv_goto (tgt := 32) hx hb dX5_fromOf_28 (by decide) ?_
          refine lv_ior hx hb dX5_fromOf_32 ?_
          refine lv_istore_n (lv' := [(3, .int (((srcF (fun r9 => atF (rK mr) (rS mr) c (n - 1 - c) (nI r9)) x k)) ||| ((nI 1) <<< ((nI k) &&& 31)))), (0, .ref m0), (1, .int (nI c)), (2, .int (x)), (4, .int (nI k))]) hx hb dX5_fromOf_33 rfl hl (by decide) rfl (fun ls hl => ?_)
          refine lv_iinc (v := nI (k + 1)) (lv' := [(4, .int (nI (k + 1))), (3, .int (((srcF (fun r9 => atF (rK mr) (rS mr) c (n - 1 - c) (nI r9)) x k)) ||| ((nI 1) <<< ((nI k) &&& 31)))), (0, .ref m0), (1, .int (nI c)), (2, .int (x))]) hx hb dX5_fromOf_34 hl (k := 4) rfl w_inc1 (by decide) rfl (fun ls hl => ?_)
          refine lv_goto (tgt := 5) hx hb dX5_fromOf_37 (by decide) ?_
          have he_5 : (((srcF (fun r9 => atF (rK mr) (rS mr) c (n - 1 - c) (nI r9)) x k)) ||| ((nI 1) <<< ((nI k) &&& 31)) : Int32) = (srcF (fun r9 => atF (rK mr) (rS mr) c (n - 1 - c) (nI r9)) x (k + 1)) := by first | exact (if_pos c_3).symm | exact Int32.or_zero.trans (if_neg c_3).symm
          have hl := lv_cong hl (show ([(4, .int (nI (k + 1))), (3, .int (((srcF (fun r9 => atF (rK mr) (rS mr) c (n - 1 - c) (nI r9)) x k)) ||| ((nI 1) <<< ((nI k) &&& 31)))), (0, .ref m0), (1, .int (nI c)), (2, .int (x))] : List (Nat × Value)) = [(4, .int (nI ((k + 1)))), (3, .int ((srcF (fun r9 => atF (rK mr) (rS mr) c (n - 1 - c) (nI r9)) x (k + 1)))), (0, .ref m0), (1, .int (nI c)), (2, .int (x))] by rw [← he_5])
          exact ih5 (k + 1) (by omega) (by first | omega | with_reducible assumption | (first | with_reducible rfl | exact (if_pos (c_3)).symm | exact (if_neg (c_3)).symm | (simp [hn1, hn6, hc, hS, hk, c_2, c_3]; done) | omega | rfl)) ls (lv_sub hl [2, 3, 4, 1, 0] rfl)
  have he_6 : (nI 0 : Int32) = (srcF (fun r9 => atF (rK mr) (rS mr) c (n - 1 - c) (nI r9)) x 0) := by first | with_reducible rfl | exact (if_pos (hS)).symm | exact (if_neg (hS)).symm | (simp [hn1, hn6, hc, hS]; done) | omega | rfl
  have hl := lv_cong hl (show ([(4, .int (nI 0)), (3, .int (nI 0)), (0, .ref m0), (1, .int (nI c)), (2, .int (x))] : List (Nat × Value)) = [(4, .int (nI 0)), (3, .int ((srcF (fun r9 => atF (rK mr) (rS mr) c (n - 1 - c) (nI r9)) x 0))), (0, .ref m0), (1, .int (nI c)), (2, .int (x))] by rw [← he_6])
  exact lp5 (12 - 0 + 1) (0) (Nat.lt_succ_self _) (by first | omega | with_reducible assumption | (first | with_reducible rfl | exact (if_pos (hS)).symm | exact (if_neg (hS)).symm | (simp [hn1, hn6, hc, hS]; done) | omega | rfl)) ls (lv_sub hl [2, 3, 4, 1, 0] rfl)
set_option maxHeartbeats 1000000 in
set_option maxRecDepth 100000 in
theorem k_X5_asTheyAre (l : Launch) (dC : Nat → ClassId) (dI : Nat → Nat → Nat) (cI cZ : ClassId) (m0 m1 m2 m3 m4 m5 m6 m7 : Nat) (mp mr mh mt mv mkr mkh : Nat → Int32) (pn n h sdn kh : Nat) (th tt sr tp ks kth ktt : Int32) (hs : Int64) (hn6 : n ≤ 6) (hS : GS (rS mr)) : Met l yX5_asTheyAre wsX5_asTheyAre ({ frames := 3, cells := 0, slots := 0, locals := 69 }) (va_Pc [.ref m0] (PR (dC, dI) cI cZ [(m0, .inr (4, [.ref m1, .int (nI pn), .int (nI n), .int (th), .int (tt), .int (sr), .ref m2, .int (tp), .int (nI h), .ref m3, .ref m4, .int (nI sdn), .ref m5, .int (ks), .int (kth), .int (ktt), .int (nI kh), .ref m6, .ref m7, .long (hs)])), (m1, .inl (cI, 20, .inl (mp))), (m2, .inl (cI, 24, .inl (mr))), (m3, .inl (cI, 24, .inl (mh))), (m4, .inl (cI, 12, .inl (mt))), (m5, .inl (cI, 24, .inl (mv))), (m6, .inl (cI, 24, .inl (mkr))), (m7, .inl (cI, 24, .inl (mkh)))])) (QRi (nI (uc0 (rK mr) (rS mr) n))) 0 0 noF := by
  refine Met.ofW (cc := cX5_asTheyAre) (maxL := 3) (ret := (some .int)) (by decide) rfl ?_
  intro p e s m args below meth co s₁ B hml hv
  obtain ⟨rfl, hP, hK⟩ := hv
  have hx := B.exec
  have hb := B.bytes
  have hr := B.returns
  have hts := atoms_spec (ws := wsX5_asTheyAre) B.pre
  have hown : s.vm.findClass RX5 = some m.cls := findClass_of_methodNamed B.named
  have hlocks := B.notSynchronized
  have hl := lv_entry ([.ref m0]) (n := 3) (Nat.le_of_ble_eq_true rfl)
  rw [lg_entry_eq]
  generalize (lg_sl ([.ref m0]) ++ List.replicate (3 - (lg_sl ([.ref m0])).length) Slot.unset).toArray = ls at hl ⊢
  have hl : lv_has ls 3 [(0, .ref m0)] := hl
  refine lv_iconst (v := nI 0) hx hb dX5_asTheyAre_0 (by decide) ?_
  refine lv_istore_n (lv' := [(1, .int (nI 0)), (0, .ref m0)]) hx hb dX5_asTheyAre_1 rfl hl (by decide) rfl (fun ls hl => ?_)
  refine lv_iconst (v := nI 0) hx hb dX5_asTheyAre_2 (by decide) ?_
  refine lv_istore_n (lv' := [(2, .int (nI 0)), (1, .int (nI 0)), (0, .ref m0)]) hx hb dX5_asTheyAre_3 rfl hl (by decide) rfl (fun ls hl => ?_)
  have lp4 : ∀ (fuel : Nat) (k : Nat), 12 - k < fuel → (k ≤ 12) → (k = 0 ∨ ¬ n = 0) → ∀ (ls : Array Slot), lv_has ls 3 [(0, .ref m0), (1, .int (nI (unF (fun r9 => atF (rK mr) (rS mr) 0 (n - 1) (nI r9)) k))), (2, .int (nI k))] → W p l e (headSpec wsX5_asTheyAre ({ frames := 3, cells := 0, slots := 0, locals := 69 })).room s m ([.ref m0] : List Value).toArray below meth co s.heap [] 0 0 (MQ below (QRi (nI (uc0 (rK mr) (rS mr) n))) ([.ref m0] : List Value).toArray s 0 0 noF) (F0 m 4 ls []) := by
    intro fuel
    induction fuel with
    | zero => intro k h0; exact absurd h0 (Nat.not_lt_zero _)
    | succ fuel ih4 =>
      intro k hm_1 hk hz ls hl
      refine lv_iload_n hx hb dX5_asTheyAre_4 rfl (lv_at hl 2 rfl) ?_
      refine lv_bipush (v := nI 12) hx hb dX5_asTheyAre_5 (by decide) ?_
      refine w_ci_ge (tgt := 41) hx hb (by omega) (by omega) dX5_asTheyAre_7 (by decide) (fun c_2 => ?_) (fun c_2 => ?_)
      · skip
        refine lv_iload_n hx hb dX5_asTheyAre_41 rfl (lv_at hl 1 rfl) ?_
        exact retRi hx hb hr hlocks (by first | exact congrArg nI (uc0_a c_2 hz) | exact congrArg nI (uc0_b (by omega) hz)) dX5_asTheyAre_42
      · skip
        refine lv_aload_n hx hb dX5_asTheyAre_10 rfl (lv_at hl 0 rfl) ?_
        have hPc := hP.sub (ws' := [(m0, .inr (4, [.ref m1, .int (nI pn), .int (nI n), .int (th), .int (tt), .int (sr), .ref m2, .int (tp), .int (nI h), .ref m3, .ref m4, .int (nI sdn), .ref m5, .int (ks), .int (kth), .int (ktt), .int (nI kh), .ref m6, .ref m7, .long (hs)])), (m1, .inl (cI, 20, .inl (mp))), (m2, .inl (cI, 24, .inl (mr))), (m3, .inl (cI, 24, .inl (mh))), (m4, .inl (cI, 12, .inl (mt))), (m5, .inl (cI, 24, .inl (mv))), (m6, .inl (cI, 24, .inl (mkr))), (m7, .inl (cI, 24, .inl (mkh)))]) [0, 1, 2, 3, 4, 5, 6, 7] rfl
        refine callRi (v := (if (n = 0) then nI 1 else nI 0)) (W.runV (As := []) (rest := []) ⟨hx, hb, hml, hown, hts⟩ (k_X5_lacks l dC dI cI cZ m0 m1 m2 m3 m4 m5 m6 m7 (mp) (mr) (mh) (mt) (mv) (mkr) (mkh) (pn) (n) (h) (sdn) (kh) (th) (tt) (sr) (tp) (ks) (kth) (ktt) (hs) (by first | omega | with_reducible assumption | (simp; omega))) (cwV 0 hts gX5_asTheyAre_X5_lacks rfl rfl rfl (by decide +kernel) ⟨Nat.le_of_ble_eq_true rfl, Nat.le_of_ble_eq_true rfl⟩) (preRV (q := (RX5, TX5, 20)) (ci := 4) hK hPc rfl rfl) rfl rfl hl.1 rfl (lv_room (Nat.le_of_ble_eq_true rfl)) dX5_asTheyAre_11 ⟨Nat.zero_le _, Nat.zero_le _⟩) ?_
        refine w_ifneB (tgt := 41) hx hb dX5_asTheyAre_14 (by decide) (fun c_3 => ?_) (fun c_3 => ?_)
        · skip
          refine lv_iload_n hx hb dX5_asTheyAre_41 rfl (lv_at hl 1 rfl) ?_
          exact retRi hx hb hr hlocks (by first | exact congrArg nI (uc0_a c_3 hz) | exact congrArg nI (uc0_b (by omega) hz)) dX5_asTheyAre_42
        · skip
          refine lv_iload_n hx hb dX5_asTheyAre_17 rfl (lv_at hl 1 rfl) ?_
          refine lv_aload_n hx hb dX5_asTheyAre_18 rfl (lv_at hl 0 rfl) ?_
          refine lv_iconst (v := nI 0) hx hb dX5_asTheyAre_19 (by decide) ?_
          refine lv_iload_n hx hb dX5_asTheyAre_20 rfl (lv_at hl 2 rfl) ?_
          have hPc := hP.sub (ws' := [(m0, .inr (4, [.ref m1, .int (nI pn), .int (nI n), .int (th), .int (tt), .int (sr), .ref m2, .int (tp), .int (nI h), .ref m3, .ref m4, .int (nI sdn), .ref m5, .int (ks), .int (kth), .int (ktt), .int (nI kh), .ref m6, .ref m7, .long (hs)])), (m1, .inl (cI, 20, .inl (mp))), (m2, .inl (cI, 24, .inl (mr))), (m3, .inl (cI, 24, .inl (mh))), (m4, .inl (cI, 12, .inl (mt))), (m5, .inl (cI, 24, .inl (mv))), (m6, .inl (cI, 24, .inl (mkr))), (m7, .inl (cI, 24, .inl (mkh)))]) [0, 1, 2, 3, 4, 5, 6, 7] rfl
          refine callRi (v := (atF (rK mr) (rS mr) 0 (n - 1 - 0) (nI k))) (W.runV (As := [.int (nI 0), .int (nI k)]) (rest := [.int (nI (unF (fun r9 => atF (rK mr) (rS mr) 0 (n - 1) (nI r9)) k))]) ⟨hx, hb, hml, hown, hts⟩ (k_X5_arrivesOf l dC dI cI cZ m0 m1 m2 m3 m4 m5 m6 m7 (mp) (mr) (mh) (mt) (mv) (mkr) (mkh) (pn) (n) (h) (sdn) (kh) (th) (tt) (sr) (tp) (ks) (kth) (ktt) (hs) (0) (nI k) (by first | omega | with_reducible assumption | (simp; omega)) (by first | omega | with_reducible assumption | (simp; omega)) (by omega) (by first | omega | with_reducible assumption | (simp; omega)) (⟨k, by omega, rfl⟩)) (cwV 2 hts gX5_asTheyAre_X5_arrivesOf rfl rfl rfl (by decide +kernel) ⟨Nat.le_of_ble_eq_true rfl, Nat.le_of_ble_eq_true rfl⟩) (preRV (q := (RX5, TX5, 20)) (ci := 4) hK hPc rfl rfl) rfl rfl hl.1 rfl (lv_room (Nat.le_of_ble_eq_true rfl)) dX5_asTheyAre_21 ⟨Nat.zero_le _, Nat.zero_le _⟩) ?_
          rw [show ((atF (rK mr) (rS mr) 0 (n - 1 - 0) (nI k)) : Int32) = (atF (rK mr) (rS mr) 0 (n - 1) (nI k)) from rfl]
          refine lv_iload_n hx hb dX5_asTheyAre_24 rfl (lv_at hl 2 rfl) ?_
          refine lv_icmp_ne (tgt := 32) hx hb dX5_asTheyAre_25 (by decide) (fun c_5 => ?_) (fun c_5 => ?_)
          · skip
            refine lv_iconst (v := nI 0) hx hb dX5_asTheyAre_32 (by decide) ?_
            refine w_addN hx hb dX5_asTheyAre_33 ?_
            refine lv_istore_n (lv' := [(1, .int (nI ((unF (fun r9 => atF (rK mr) (rS mr) 0 (n - 1) (nI r9)) k) + 0))), (0, .ref m0), (2, .int (nI k))]) hx hb dX5_asTheyAre_34 rfl hl (by decide) rfl (fun ls hl => ?_)
            refine lv_iinc (v := nI (k + 1)) (lv' := [(2, .int (nI (k + 1))), (1, .int (nI ((unF (fun r9 => atF (rK mr) (rS mr) 0 (n - 1) (nI r9)) k) + 0))), (0, .ref m0)]) hx hb dX5_asTheyAre_35 hl (k := 2) rfl w_inc1 (by decide) rfl (fun ls hl => ?_)
            refine lv_goto (tgt := 4) hx hb dX5_asTheyAre_38 (by decide) ?_
            have he_6 : (nI ((unF (fun r9 => atF (rK mr) (rS mr) 0 (n - 1) (nI r9)) k) + 0) : Int32) = nI (unF (fun r9 => atF (rK mr) (rS mr) 0 (n - 1) (nI r9)) (k + 1)) := by first | exact congrArg nI (if_pos c_5).symm | exact congrArg nI (if_neg c_5).symm
            have hl := lv_cong hl (show ([(2, .int (nI (k + 1))), (1, .int (nI ((unF (fun r9 => atF (rK mr) (rS mr) 0 (n - 1) (nI r9)) k) + 0))), (0, .ref m0)] : List (Nat × Value)) = [(2, .int (nI ((k + 1)))), (1, .int (nI (unF (fun r9 => atF (rK mr) (rS mr) 0 (n - 1) (nI r9)) (k + 1)))), (0, .ref m0)] by rw [← he_6])
            exact ih4 (k + 1) (by omega) (by first | omega | with_reducible assumption | (first | with_reducible rfl | exact (if_pos (c_5)).symm | exact (if_neg (c_5)).symm | (simp [hn6, hS, hk, hz, c_2, c_3, c_5]; done) | omega | rfl)) (by exact Or.inr c_3) ls (lv_sub hl [2, 1, 0] rfl)
          · skip
            refine lv_iconst (v := nI 1) hx hb dX5_asTheyAre_28 (by decide) ?_
            refine lv_goto (tgt := 33) hx hb dX5_asTheyAre_29 (by decide) ?_
            refine w_addN hx hb dX5_asTheyAre_33 ?_
            refine lv_istore_n (lv' := [(1, .int (nI ((unF (fun r9 => atF (rK mr) (rS mr) 0 (n - 1) (nI r9)) k) + 1))), (0, .ref m0), (2, .int (nI k))]) hx hb dX5_asTheyAre_34 rfl hl (by decide) rfl (fun ls hl => ?_)
            refine lv_iinc (v := nI (k + 1)) (lv' := [(2, .int (nI (k + 1))), (1, .int (nI ((unF (fun r9 => atF (rK mr) (rS mr) 0 (n - 1) (nI r9)) k) + 1))), (0, .ref m0)]) hx hb dX5_asTheyAre_35 hl (k := 2) rfl w_inc1 (by decide) rfl (fun ls hl => ?_)
            refine lv_goto (tgt := 4) hx hb dX5_asTheyAre_38 (by decide) ?_
            have he_7 : (nI ((unF (fun r9 => atF (rK mr) (rS mr) 0 (n - 1) (nI r9)) k) + 1) : Int32) = nI (unF (fun r9 => atF (rK mr) (rS mr) 0 (n - 1) (nI r9)) (k + 1)) := by first | exact congrArg nI (if_pos c_5).symm | exact congrArg nI (if_neg c_5).symm
            have hl := lv_cong hl (show ([(2, .int (nI (k + 1))), (1, .int (nI ((unF (fun r9 => atF (rK mr) (rS mr) 0 (n - 1) (nI r9)) k) + 1))), (0, .ref m0)] : List (Nat × Value)) = [(2, .int (nI ((k + 1)))), (1, .int (nI (unF (fun r9 => atF (rK mr) (rS mr) 0 (n - 1) (nI r9)) (k + 1)))), (0, .ref m0)] by rw [← he_7])
            exact ih4 (k + 1) (by omega) (by first | omega | with_reducible assumption | (first | with_reducible rfl | exact (if_pos (c_5)).symm | exact (if_neg (c_5)).symm | (simp [hn6, hS, hk, hz, c_2, c_3, c_5]; done) | omega | rfl)) (by exact Or.inr c_3) ls (lv_sub hl [2, 1, 0] rfl)
  have he_8 : (nI 0 : Int32) = nI (unF (fun r9 => atF (rK mr) (rS mr) 0 (n - 1) (nI r9)) 0) := by first | with_reducible rfl | exact (if_pos (hS)).symm | exact (if_neg (hS)).symm | (simp [hn6, hS]; done) | omega | rfl
  have hl := lv_cong hl (show ([(2, .int (nI 0)), (1, .int (nI 0)), (0, .ref m0)] : List (Nat × Value)) = [(2, .int (nI 0)), (1, .int (nI (unF (fun r9 => atF (rK mr) (rS mr) 0 (n - 1) (nI r9)) 0))), (0, .ref m0)] by rw [← he_8])
  exact lp4 (12 - 0 + 1) (0) (Nat.lt_succ_self _) (by first | omega | with_reducible assumption | (first | with_reducible rfl | exact (if_pos (hS)).symm | exact (if_neg (hS)).symm | (simp [hn6, hS]; done) | omega | rfl)) (by exact Or.inl rfl) ls (lv_sub hl [2, 1, 0] rfl)
