set_option maxHeartbeats 1000000 in
set_option maxRecDepth 100000 in
theorem k_X5_unlike (l : Launch) (dC : Nat → ClassId) (dI : Nat → Nat → Nat) (cI cZ : ClassId) (m0 m1 m2 m3 m4 m5 m6 m7 : Nat) (mp mr mh mt mv mkr mkh : Nat → Int32) (pn n h sdn kh : Nat) (th tt sr tp ks kth ktt : Int32) (hs : Int64) (hn6 : n ≤ 6) (gN : GN (rN mr)) : Met l yX5_unlike wsX5_unlike ({ frames := 0, cells := 0, slots := 0, locals := 0 }) (va_Pc [.ref m0] (PR (dC, dI) cI cZ [(m0, .inr (4, [.ref m1, .int (nI pn), .int (nI n), .int (th), .int (tt), .int (sr), .ref m2, .int (tp), .int (nI h), .ref m3, .ref m4, .int (nI sdn), .ref m5, .int (ks), .int (kth), .int (ktt), .int (nI kh), .ref m6, .ref m7, .long (hs)])), (m1, .inl (cI, 20, .inl (mp))), (m2, .inl (cI, 24, .inl (mr))), (m3, .inl (cI, 24, .inl (mh))), (m4, .inl (cI, 12, .inl (mt))), (m5, .inl (cI, 24, .inl (mv))), (m6, .inl (cI, 24, .inl (mkr))), (m7, .inl (cI, 24, .inl (mkh)))])) (QRi ((bcx (ulF (rN mr) n)))) 0 0 noF := by
  refine Met.ofW (cc := cX5_unlike) (maxL := 5) (ret := (some .int)) (by decide) rfl ?_
  intro p e s m args below meth co s₁ B hml hv
  obtain ⟨rfl, hP, hK⟩ := hv
  have hx := B.exec
  have hb := B.bytes
  have hr := B.returns
  have hts := atoms_spec (ws := wsX5_unlike) B.pre
  have hown : s.vm.findClass RX5 = some m.cls := findClass_of_methodNamed B.named
  have hlocks := B.notSynchronized
  have inX5 : ∀ w ∈ u_ws RX5 TX5 20, w ∈ wsX5_unlike := by decide +kernel
  have lf13 := hts (.fieldLink RX5 13 "ThursdayRungsModel" "rows" "[I") (by decide +kernel)
  have lf60 := hts (.fieldLink RX5 60 "ThursdayRungsModel" "children" "I") (by decide +kernel)
  have hl := lv_entry ([.ref m0]) (n := 5) (Nat.le_of_ble_eq_true rfl)
  rw [lg_entry_eq]
  generalize (lg_sl ([.ref m0]) ++ List.replicate (5 - (lg_sl ([.ref m0])).length) Slot.unset).toArray = ls at hl ⊢
  have hl : lv_has ls 5 [(0, .ref m0)] := hl
  refine lv_iconst (v := nI 0) hx hb dX5_unlike_0 (by decide) ?_
  refine lv_istore_n (lv' := [(1, .int (nI 0)), (0, .ref m0)]) hx hb dX5_unlike_1 rfl hl (by decide) rfl (fun ls hl => ?_)
  refine lv_iconst (v := nI 0) hx hb dX5_unlike_2 (by decide) ?_
  refine lv_istore_n (lv' := [(2, .int (nI 0)), (1, .int (nI 0)), (0, .ref m0)]) hx hb dX5_unlike_3 rfl hl (by decide) rfl (fun ls hl => ?_)
  refine lv_iconst (v := nI 0) hx hb dX5_unlike_4 (by decide) ?_
  refine lv_istore_n (lv' := [(3, .int (nI 0)), (2, .int (nI 0)), (1, .int (nI 0)), (0, .ref m0)]) hx hb dX5_unlike_5 rfl hl (by decide) rfl (fun ls hl => ?_)
  have lp6 : ∀ (fuel : Nat) (k : Nat), n - k < fuel → (k ≤ n) → ∀ (ls : Array Slot), lv_has ls 5 [(0, .ref m0), (1, .int ((ulF (rN mr) k))), (2, .int ((bcx (ulF (rN mr) k)))), (3, .int (nI k))] → W p l e (headSpec wsX5_unlike ({ frames := 0, cells := 0, slots := 0, locals := 0 })).room s m ([.ref m0] : List Value).toArray below meth co s.heap [] 0 0 (MQ below (QRi ((bcx (ulF (rN mr) n)))) ([.ref m0] : List Value).toArray s 0 0 noF) (F0 m 6 ls []) := by
    intro fuel
    induction fuel with
    | zero => intro k h0; exact absurd h0 (Nat.not_lt_zero _)
    | succ fuel ih6 =>
      intro k hm_1 hk ls hl
      refine lv_iload_n hx hb dX5_unlike_6 rfl (lv_at hl 3 rfl) ?_
      refine lv_aload_n hx hb dX5_unlike_7 rfl (lv_at hl 0 rfl) ?_
      refine va_get (D := (dC, dI)) (ci := 4) (v := .int (nI n)) (C := RX5) (T := TX5) (N := 20) hx hb hts inX5 hown hK hP 0 rfl rfl 2 (by decide) lf60 (fun _ h9 => h9) rfl dX5_unlike_8 ?_
      refine w_ci_ge (tgt := 70) hx hb (by omega) (by omega) dX5_unlike_11 (by decide) (fun c_2 => ?_) (fun c_2 => ?_)
      · skip
        refine lv_iload_n hx hb dX5_unlike_70 rfl (lv_at hl 2 rfl) ?_
        exact retRi hx hb hr hlocks (by rw [show k = n by omega]) dX5_unlike_71
      · skip
        refine lv_aload_n hx hb dX5_unlike_14 rfl (lv_at hl 0 rfl) ?_
        refine va_get (D := (dC, dI)) (ci := 4) (v := .ref m2) (C := RX5) (T := TX5) (N := 20) hx hb hts inX5 hown hK hP 0 rfl rfl 6 (by decide) lf13 (fun _ h9 => h9) rfl dX5_unlike_15 ?_
        refine lv_iconst (v := nI 4) hx hb dX5_unlike_18 (by decide) ?_
        refine lv_iload_n hx hb dX5_unlike_19 rfl (lv_at hl 3 rfl) ?_
        refine w_mulN hx hb dX5_unlike_20 ?_
        refine lv_iconst (v := nI 2) hx hb dX5_unlike_21 (by decide) ?_
        refine w_addN hx hb dX5_unlike_22 ?_
        refine w_iald (k := (4 * k) + 2) hx hb hK hP 2 0 rfl rfl (by omega) (by decide) dX5_unlike_23 ?_
        refine lv_istore (lv' := [(4, .int (mr ((4 * k) + 2))), (0, .ref m0), (1, .int ((ulF (rN mr) k))), (2, .int ((bcx (ulF (rN mr) k)))), (3, .int (nI k))]) hx hb dX5_unlike_24 hl (by decide) rfl (fun ls hl => ?_)
        refine lv_iload_n hx hb dX5_unlike_26 rfl (lv_at hl 3 rfl) ?_
        refine lv_iload hx hb dX5_unlike_27 (lv_at hl 0 rfl) ?_
        refine lv_iconst (v := -1) hx hb dX5_unlike_29 (by decide) ?_
        refine lv_icmp_ne (tgt := 37) hx hb dX5_unlike_30 (by decide) (fun c_3 => ?_) (fun c_3 => ?_)
        · skip
          refine lv_iconst (v := nI 1) hx hb dX5_unlike_37 (by decide) ?_
          refine lv_iload_n hx hb dX5_unlike_38 rfl (lv_at hl 2 rfl) ?_
          refine lv_iload hx hb dX5_unlike_39 (lv_at hl 0 rfl) ?_
          refine lv_ishr hx hb dX5_unlike_41 ?_
          refine lv_iconst (v := nI 1) hx hb dX5_unlike_42 (by decide) ?_
          refine lv_iand hx hb dX5_unlike_43 ?_
          refine lv_isub hx hb dX5_unlike_44 ?_
          refine lv_iadd hx hb dX5_unlike_45 ?_
          refine lv_istore_n (lv' := [(2, .int (((bcx (ulF (rN mr) k))) + ((nI 1) - ((((ulF (rN mr) k)) >>> ((mr ((4 * k) + 2)) &&& 31)) &&& (nI 1))))), (4, .int (mr ((4 * k) + 2))), (0, .ref m0), (1, .int ((ulF (rN mr) k))), (3, .int (nI k))]) hx hb dX5_unlike_46 rfl hl (by decide) rfl (fun ls hl => ?_)
          refine lv_iload_n hx hb dX5_unlike_47 rfl (lv_at hl 3 rfl) ?_
          refine lv_iload hx hb dX5_unlike_48 (lv_at hl 1 rfl) ?_
          refine lv_iconst (v := -1) hx hb dX5_unlike_50 (by decide) ?_
          refine lv_icmp_ne (tgt := 58) hx hb dX5_unlike_51 (by decide) (fun c_4 => ?_) (fun c_4 => ?_)
          · skip
            refine lv_iconst (v := nI 1) hx hb dX5_unlike_58 (by decide) ?_
            refine lv_iload hx hb dX5_unlike_59 (lv_at hl 1 rfl) ?_
            refine lv_ishl hx hb dX5_unlike_61 ?_
            refine lv_ior hx hb dX5_unlike_62 ?_
            refine lv_istore_n (lv' := [(1, .int (((ulF (rN mr) k)) ||| ((nI 1) <<< ((mr ((4 * k) + 2)) &&& 31)))), (2, .int (((bcx (ulF (rN mr) k))) + ((nI 1) - ((((ulF (rN mr) k)) >>> ((mr ((4 * k) + 2)) &&& 31)) &&& (nI 1))))), (4, .int (mr ((4 * k) + 2))), (0, .ref m0), (3, .int (nI k))]) hx hb dX5_unlike_63 rfl hl (by decide) rfl (fun ls hl => ?_)
            refine lv_iinc (v := nI (k + 1)) (lv' := [(3, .int (nI (k + 1))), (1, .int (((ulF (rN mr) k)) ||| ((nI 1) <<< ((mr ((4 * k) + 2)) &&& 31)))), (2, .int (((bcx (ulF (rN mr) k))) + ((nI 1) - ((((ulF (rN mr) k)) >>> ((mr ((4 * k) + 2)) &&& 31)) &&& (nI 1))))), (4, .int (mr ((4 * k) + 2))), (0, .ref m0)]) hx hb dX5_unlike_64 hl (k := 4) rfl w_inc1 (by decide) rfl (fun ls hl => ?_)
            refine lv_goto (tgt := 6) hx hb dX5_unlike_67 (by decide) ?_
            have he_5 : (((ulF (rN mr) k)) ||| ((nI 1) <<< ((mr ((4 * k) + 2)) &&& 31)) : Int32) = (ulF (rN mr) (k + 1)) := by first | exact Int32.or_zero.trans (if_pos c_3).symm | exact (if_neg c_3).symm
            have he_6 : (((bcx (ulF (rN mr) k))) + ((nI 1) - ((((ulF (rN mr) k)) >>> ((mr ((4 * k) + 2)) &&& 31)) &&& (nI 1))) : Int32) = (bcx (ulF (rN mr) (k + 1))) := by first | exact unlike_n c_3 | exact unlike_t gN c_3
            have hl := lv_cong hl (show ([(3, .int (nI (k + 1))), (1, .int (((ulF (rN mr) k)) ||| ((nI 1) <<< ((mr ((4 * k) + 2)) &&& 31)))), (2, .int (((bcx (ulF (rN mr) k))) + ((nI 1) - ((((ulF (rN mr) k)) >>> ((mr ((4 * k) + 2)) &&& 31)) &&& (nI 1))))), (4, .int (mr ((4 * k) + 2))), (0, .ref m0)] : List (Nat × Value)) = [(3, .int (nI ((k + 1)))), (1, .int ((ulF (rN mr) (k + 1)))), (2, .int ((bcx (ulF (rN mr) (k + 1))))), (4, .int (mr ((4 * k) + 2))), (0, .ref m0)] by rw [← he_6, ← he_5])
            exact ih6 (k + 1) (by omega) (by first | omega | with_reducible assumption | (first | with_reducible rfl | exact (if_pos (c_3)).symm | exact (if_neg (c_3)).symm | (simp [hn6, gN, hk, c_2, c_3]; done) | omega | rfl)) ls (lv_sub hl [4, 1, 2, 0] rfl)
          · skip
            first | exact absurd c_4 (by decide) | exact (c_4 : False).elim | omega | exact absurd c_4 c_3 | exact absurd c_3 c_4
        · skip
          refine lv_iconst (v := nI 0) hx hb dX5_unlike_33 (by decide) ?_
          refine lv_goto (tgt := 45) hx hb dX5_unlike_34 (by decide) ?_
          refine lv_iadd hx hb dX5_unlike_45 ?_
          refine lv_istore_n (lv' := [(2, .int (((bcx (ulF (rN mr) k))) + (nI 0))), (4, .int (mr ((4 * k) + 2))), (0, .ref m0), (1, .int ((ulF (rN mr) k))), (3, .int (nI k))]) hx hb dX5_unlike_46 rfl hl (by decide) rfl (fun ls hl => ?_)
          refine lv_iload_n hx hb dX5_unlike_47 rfl (lv_at hl 3 rfl) ?_
          refine lv_iload hx hb dX5_unlike_48 (lv_at hl 1 rfl) ?_
          refine lv_iconst (v := -1) hx hb dX5_unlike_50 (by decide) ?_
          refine lv_icmp_ne (tgt := 58) hx hb dX5_unlike_51 (by decide) (fun c_7 => ?_) (fun c_7 => ?_)
          · skip
            first | exact absurd c_7 (by decide) | exact (c_7 : False).elim | omega | exact absurd c_7 c_3 | exact absurd c_3 c_7
          · skip
            refine lv_iconst (v := nI 0) hx hb dX5_unlike_54 (by decide) ?_
            refine lv_goto (tgt := 62) hx hb dX5_unlike_55 (by decide) ?_
            refine lv_ior hx hb dX5_unlike_62 ?_
            refine lv_istore_n (lv' := [(1, .int (((ulF (rN mr) k)) ||| (nI 0))), (2, .int (((bcx (ulF (rN mr) k))) + (nI 0))), (4, .int (mr ((4 * k) + 2))), (0, .ref m0), (3, .int (nI k))]) hx hb dX5_unlike_63 rfl hl (by decide) rfl (fun ls hl => ?_)
            refine lv_iinc (v := nI (k + 1)) (lv' := [(3, .int (nI (k + 1))), (1, .int (((ulF (rN mr) k)) ||| (nI 0))), (2, .int (((bcx (ulF (rN mr) k))) + (nI 0))), (4, .int (mr ((4 * k) + 2))), (0, .ref m0)]) hx hb dX5_unlike_64 hl (k := 4) rfl w_inc1 (by decide) rfl (fun ls hl => ?_)
            refine lv_goto (tgt := 6) hx hb dX5_unlike_67 (by decide) ?_
            have he_8 : (((ulF (rN mr) k)) ||| (nI 0) : Int32) = (ulF (rN mr) (k + 1)) := by first | exact Int32.or_zero.trans (if_pos c_3).symm | exact (if_neg c_3).symm
            have he_9 : (((bcx (ulF (rN mr) k))) + (nI 0) : Int32) = (bcx (ulF (rN mr) (k + 1))) := by first | exact unlike_n c_3 | exact unlike_t gN c_3
            have hl := lv_cong hl (show ([(3, .int (nI (k + 1))), (1, .int (((ulF (rN mr) k)) ||| (nI 0))), (2, .int (((bcx (ulF (rN mr) k))) + (nI 0))), (4, .int (mr ((4 * k) + 2))), (0, .ref m0)] : List (Nat × Value)) = [(3, .int (nI ((k + 1)))), (1, .int ((ulF (rN mr) (k + 1)))), (2, .int ((bcx (ulF (rN mr) (k + 1))))), (4, .int (mr ((4 * k) + 2))), (0, .ref m0)] by rw [← he_9, ← he_8])
            exact ih6 (k + 1) (by omega) (by first | omega | with_reducible assumption | (first | with_reducible rfl | exact (if_pos (c_3)).symm | exact (if_neg (c_3)).symm | (simp [hn6, gN, hk, c_2, c_3]; done) | omega | rfl)) ls (lv_sub hl [4, 1, 2, 0] rfl)
  have he_10 : (nI 0 : Int32) = (ulF (rN mr) 0) := by rfl
  have he_11 : (nI 0 : Int32) = (bcx (ulF (rN mr) 0)) := by show nI 0 = bcx (nI 0); decide
  have hl := lv_cong hl (show ([(3, .int (nI 0)), (2, .int (nI 0)), (1, .int (nI 0)), (0, .ref m0)] : List (Nat × Value)) = [(3, .int (nI 0)), (2, .int ((bcx (ulF (rN mr) 0)))), (1, .int ((ulF (rN mr) 0))), (0, .ref m0)] by rw [← he_11, ← he_10])
  exact lp6 (n - 0 + 1) (0) (Nat.lt_succ_self _) (by first | omega | with_reducible assumption | (first | with_reducible rfl | exact (if_pos (gN)).symm | exact (if_neg (gN)).symm | (simp [hn6, gN]; done) | omega | rfl)) ls (lv_sub hl [3, 2, 1, 0] rfl)
set_option maxHeartbeats 1000000 in
set_option maxRecDepth 100000 in
theorem k_X5_countOf (l : Launch) (dC : Nat → ClassId) (dI : Nat → Nat → Nat) (cI cZ : ClassId) (m0 m1 m2 m3 m4 m5 m6 m7 : Nat) (mp mr mh mt mv mkr mkh : Nat → Int32) (pn n h sdn kh : Nat) (th tt sr tp ks kth ktt : Int32) (hs : Int64) (w : Int32) (hn6 : n ≤ 6) (gS : GS (rS mr)) (gN : GN (rN mr)) (gI : GI (rI mr)) : Met l yX5_countOf wsX5_countOf ({ frames := 4, cells := 0, slots := 0, locals := 91 }) (va_Pc [.ref m0, .int (w)] (PR (dC, dI) cI cZ [(m0, .inr (4, [.ref m1, .int (nI pn), .int (nI n), .int (th), .int (tt), .int (sr), .ref m2, .int (tp), .int (nI h), .ref m3, .ref m4, .int (nI sdn), .ref m5, .int (ks), .int (kth), .int (ktt), .int (nI kh), .ref m6, .ref m7, .long (hs)])), (m1, .inl (cI, 20, .inl (mp))), (m2, .inl (cI, 24, .inl (mr))), (m3, .inl (cI, 24, .inl (mh))), (m4, .inl (cI, 12, .inl (mt))), (m5, .inl (cI, 24, .inl (mv))), (m6, .inl (cI, 24, .inl (mkr))), (m7, .inl (cI, 24, .inl (mkh)))])) (QRi ((ctF n h th tt sr pn (rN mr) (rI mr) (rK mr) (rS mr) (bcx (ulF (rN mr) n)) w))) 0 0 noF := by
  refine Met.ofW (cc := cX5_countOf) (maxL := 2) (ret := (some .int)) (by decide) rfl ?_
  intro p e s m args below meth co s₁ B hml hv
  obtain ⟨rfl, hP, hK⟩ := hv
  have hx := B.exec
  have hb := B.bytes
  have hr := B.returns
  have hts := atoms_spec (ws := wsX5_countOf) B.pre
  have hown : s.vm.findClass RX5 = some m.cls := findClass_of_methodNamed B.named
  have hlocks := B.notSynchronized
  have inX5 : ∀ w ∈ u_ws RX5 TX5 20, w ∈ wsX5_countOf := by decide +kernel
  have lf41 := hts (.fieldLink RX5 41 "ThursdayRungsModel" "pageMany" "I") (by decide +kernel)
  have lf60 := hts (.fieldLink RX5 60 "ThursdayRungsModel" "children" "I") (by decide +kernel)
  have lf63 := hts (.fieldLink RX5 63 "ThursdayRungsModel" "thursdays" "I") (by decide +kernel)
  have lf66 := hts (.fieldLink RX5 66 "ThursdayRungsModel" "taught" "I") (by decide +kernel)
  have lf69 := hts (.fieldLink RX5 69 "ThursdayRungsModel" "heardMany" "I") (by decide +kernel)
  have lf72 := hts (.fieldLink RX5 72 "ThursdayRungsModel" "schoolsRead" "I") (by decide +kernel)
  have hl := lv_entry ([.ref m0, .int (w)]) (n := 2) (Nat.le_of_ble_eq_true rfl)
  rw [lg_entry_eq]
  generalize (lg_sl ([.ref m0, .int (w)]) ++ List.replicate (2 - (lg_sl ([.ref m0, .int (w)])).length) Slot.unset).toArray = ls at hl ⊢
  have hl : lv_has ls 2 [(0, .ref m0), (1, .int (w))] := hl
  refine lv_iload_n hx hb dX5_countOf_0 rfl (lv_at hl 1 rfl) ?_
  by_cases w_1 : w = nI 0
  · skip
    refine lv_tableIn (tgt := 56) hx hb dX5_countOf_1 (by rw [w_1]; decide) (by rw [w_1]; decide) (by rw [w_1]; rfl) (by decide) ?_
    refine lv_aload_n hx hb dX5_countOf_56 rfl (lv_at hl 0 rfl) ?_
    refine va_get (D := (dC, dI)) (ci := 4) (v := .int (nI n)) (C := RX5) (T := TX5) (N := 20) hx hb hts inX5 hown hK hP 0 rfl rfl 2 (by decide) lf60 (fun _ h9 => h9) rfl dX5_countOf_57 ?_
    exact retRi hx hb hr hlocks (by first | (rw [w_1]; rfl) | (unfold ctF; simp [hn6, gS, gN, gI, w_1])) dX5_countOf_60
  by_cases w_2 : w = nI 1
  · skip
    refine lv_tableIn (tgt := 61) hx hb dX5_countOf_1 (by rw [w_2]; decide) (by rw [w_2]; decide) (by rw [w_2]; rfl) (by decide) ?_
    refine lv_aload_n hx hb dX5_countOf_61 rfl (lv_at hl 0 rfl) ?_
    have hPc := hP.sub (ws' := [(m0, .inr (4, [.ref m1, .int (nI pn), .int (nI n), .int (th), .int (tt), .int (sr), .ref m2, .int (tp), .int (nI h), .ref m3, .ref m4, .int (nI sdn), .ref m5, .int (ks), .int (kth), .int (ktt), .int (nI kh), .ref m6, .ref m7, .long (hs)])), (m1, .inl (cI, 20, .inl (mp))), (m2, .inl (cI, 24, .inl (mr))), (m3, .inl (cI, 24, .inl (mh))), (m4, .inl (cI, 12, .inl (mt))), (m5, .inl (cI, 24, .inl (mv))), (m6, .inl (cI, 24, .inl (mkr))), (m7, .inl (cI, 24, .inl (mkh)))]) [0, 1, 2, 3, 4, 5, 6, 7] rfl
    refine callRi (v := nI (kwF (rN mr) n)) (W.runV (As := []) (rest := []) ⟨hx, hb, hml, hown, hts⟩ (k_X5_knowing l dC dI cI cZ m0 m1 m2 m3 m4 m5 m6 m7 (mp) (mr) (mh) (mt) (mv) (mkr) (mkh) (pn) (n) (h) (sdn) (kh) (th) (tt) (sr) (tp) (ks) (kth) (ktt) (hs) (by first | omega | with_reducible assumption | (simp; omega))) (cwV 0 hts gX5_countOf_X5_knowing rfl rfl rfl (by decide +kernel) ⟨Nat.le_of_ble_eq_true rfl, Nat.le_of_ble_eq_true rfl⟩) (preRV (q := (RX5, TX5, 20)) (ci := 4) hK hPc rfl rfl) rfl rfl hl.1 rfl (lv_room (Nat.le_of_ble_eq_true rfl)) dX5_countOf_62 ⟨Nat.zero_le _, Nat.zero_le _⟩) ?_
    exact retRi hx hb hr hlocks (by first | (rw [w_2]; rfl) | (unfold ctF; simp [hn6, gS, gN, gI, w_2])) dX5_countOf_65
  by_cases w_3 : w = nI 2
  · skip
    refine lv_tableIn (tgt := 66) hx hb dX5_countOf_1 (by rw [w_3]; decide) (by rw [w_3]; decide) (by rw [w_3]; rfl) (by decide) ?_
    refine lv_aload_n hx hb dX5_countOf_66 rfl (lv_at hl 0 rfl) ?_
    have hPc := hP.sub (ws' := [(m0, .inr (4, [.ref m1, .int (nI pn), .int (nI n), .int (th), .int (tt), .int (sr), .ref m2, .int (tp), .int (nI h), .ref m3, .ref m4, .int (nI sdn), .ref m5, .int (ks), .int (kth), .int (ktt), .int (nI kh), .ref m6, .ref m7, .long (hs)])), (m1, .inl (cI, 20, .inl (mp))), (m2, .inl (cI, 24, .inl (mr))), (m3, .inl (cI, 24, .inl (mh))), (m4, .inl (cI, 12, .inl (mt))), (m5, .inl (cI, 24, .inl (mv))), (m6, .inl (cI, 24, .inl (mkr))), (m7, .inl (cI, 24, .inl (mkh)))]) [0, 1, 2, 3, 4, 5, 6, 7] rfl
    refine callRi (v := (bcx (ulF (rN mr) n))) (W.runV (As := []) (rest := []) ⟨hx, hb, hml, hown, hts⟩ (k_X5_unlike l dC dI cI cZ m0 m1 m2 m3 m4 m5 m6 m7 (mp) (mr) (mh) (mt) (mv) (mkr) (mkh) (pn) (n) (h) (sdn) (kh) (th) (tt) (sr) (tp) (ks) (kth) (ktt) (hs) (by first | omega | with_reducible assumption | (simp; omega)) (gN)) (cwV 0 hts gX5_countOf_X5_unlike rfl rfl rfl (by decide +kernel) ⟨Nat.le_of_ble_eq_true rfl, Nat.le_of_ble_eq_true rfl⟩) (preRV (q := (RX5, TX5, 20)) (ci := 4) hK hPc rfl rfl) rfl rfl hl.1 rfl (lv_room (Nat.le_of_ble_eq_true rfl)) dX5_countOf_67 ⟨Nat.zero_le _, Nat.zero_le _⟩) ?_
    exact retRi hx hb hr hlocks (by first | (rw [w_3]; rfl) | (unfold ctF; simp [hn6, gS, gN, gI, w_3])) dX5_countOf_70
  by_cases w_4 : w = nI 3
  · skip
    refine lv_tableIn (tgt := 71) hx hb dX5_countOf_1 (by rw [w_4]; decide) (by rw [w_4]; decide) (by rw [w_4]; rfl) (by decide) ?_
    refine lv_aload_n hx hb dX5_countOf_71 rfl (lv_at hl 0 rfl) ?_
    have hPc := hP.sub (ws' := [(m0, .inr (4, [.ref m1, .int (nI pn), .int (nI n), .int (th), .int (tt), .int (sr), .ref m2, .int (tp), .int (nI h), .ref m3, .ref m4, .int (nI sdn), .ref m5, .int (ks), .int (kth), .int (ktt), .int (nI kh), .ref m6, .ref m7, .long (hs)])), (m1, .inl (cI, 20, .inl (mp))), (m2, .inl (cI, 24, .inl (mr))), (m3, .inl (cI, 24, .inl (mh))), (m4, .inl (cI, 12, .inl (mt))), (m5, .inl (cI, 24, .inl (mv))), (m6, .inl (cI, 24, .inl (mkr))), (m7, .inl (cI, 24, .inl (mkh)))]) [0, 1, 2, 3, 4, 5, 6, 7] rfl
    refine callRi (v := nI (ioF (rI mr) n)) (W.runV (As := []) (rest := []) ⟨hx, hb, hml, hown, hts⟩ (k_X5_illMany l dC dI cI cZ m0 m1 m2 m3 m4 m5 m6 m7 (mp) (mr) (mh) (mt) (mv) (mkr) (mkh) (pn) (n) (h) (sdn) (kh) (th) (tt) (sr) (tp) (ks) (kth) (ktt) (hs) (by first | omega | with_reducible assumption | (simp; omega)) (gI)) (cwV 0 hts gX5_countOf_X5_illMany rfl rfl rfl (by decide +kernel) ⟨Nat.le_of_ble_eq_true rfl, Nat.le_of_ble_eq_true rfl⟩) (preRV (q := (RX5, TX5, 20)) (ci := 4) hK hPc rfl rfl) rfl rfl hl.1 rfl (lv_room (Nat.le_of_ble_eq_true rfl)) dX5_countOf_72 ⟨Nat.zero_le _, Nat.zero_le _⟩) ?_
    exact retRi hx hb hr hlocks (by first | (rw [w_4]; rfl) | (unfold ctF; simp [hn6, gS, gN, gI, w_4])) dX5_countOf_75
  by_cases w_5 : w = nI 4
  · skip
    refine lv_tableIn (tgt := 76) hx hb dX5_countOf_1 (by rw [w_5]; decide) (by rw [w_5]; decide) (by rw [w_5]; rfl) (by decide) ?_
    refine lv_aload_n hx hb dX5_countOf_76 rfl (lv_at hl 0 rfl) ?_
    refine va_get (D := (dC, dI)) (ci := 4) (v := .int (th)) (C := RX5) (T := TX5) (N := 20) hx hb hts inX5 hown hK hP 0 rfl rfl 3 (by decide) lf63 (fun _ h9 => h9) rfl dX5_countOf_77 ?_
    exact retRi hx hb hr hlocks (by first | (rw [w_5]; rfl) | (unfold ctF; simp [hn6, gS, gN, gI, w_5])) dX5_countOf_80
  by_cases w_6 : w = nI 5
  · skip
    refine lv_tableIn (tgt := 81) hx hb dX5_countOf_1 (by rw [w_6]; decide) (by rw [w_6]; decide) (by rw [w_6]; rfl) (by decide) ?_
    refine lv_aload_n hx hb dX5_countOf_81 rfl (lv_at hl 0 rfl) ?_
    refine va_get (D := (dC, dI)) (ci := 4) (v := .int (tt)) (C := RX5) (T := TX5) (N := 20) hx hb hts inX5 hown hK hP 0 rfl rfl 4 (by decide) lf66 (fun _ h9 => h9) rfl dX5_countOf_82 ?_
    exact retRi hx hb hr hlocks (by first | (rw [w_6]; rfl) | (unfold ctF; simp [hn6, gS, gN, gI, w_6])) dX5_countOf_85
  by_cases w_7 : w = nI 6
  · skip
    refine lv_tableIn (tgt := 86) hx hb dX5_countOf_1 (by rw [w_7]; decide) (by rw [w_7]; decide) (by rw [w_7]; rfl) (by decide) ?_
    refine lv_aload_n hx hb dX5_countOf_86 rfl (lv_at hl 0 rfl) ?_
    have hPc := hP.sub (ws' := [(m0, .inr (4, [.ref m1, .int (nI pn), .int (nI n), .int (th), .int (tt), .int (sr), .ref m2, .int (tp), .int (nI h), .ref m3, .ref m4, .int (nI sdn), .ref m5, .int (ks), .int (kth), .int (ktt), .int (nI kh), .ref m6, .ref m7, .long (hs)])), (m1, .inl (cI, 20, .inl (mp))), (m2, .inl (cI, 24, .inl (mr))), (m3, .inl (cI, 24, .inl (mh))), (m4, .inl (cI, 12, .inl (mt))), (m5, .inl (cI, 24, .inl (mv))), (m6, .inl (cI, 24, .inl (mkr))), (m7, .inl (cI, 24, .inl (mkh)))]) [0, 1, 2, 3, 4, 5, 6, 7] rfl
    refine callRi (v := nI (uc0 (rK mr) (rS mr) n)) (W.runV (As := []) (rest := []) ⟨hx, hb, hml, hown, hts⟩ (k_X5_asTheyAre l dC dI cI cZ m0 m1 m2 m3 m4 m5 m6 m7 (mp) (mr) (mh) (mt) (mv) (mkr) (mkh) (pn) (n) (h) (sdn) (kh) (th) (tt) (sr) (tp) (ks) (kth) (ktt) (hs) (by first | omega | with_reducible assumption | (simp; omega)) (gS)) (cwV 0 hts gX5_countOf_X5_asTheyAre rfl rfl rfl (by decide +kernel) ⟨Nat.le_of_ble_eq_true rfl, Nat.le_of_ble_eq_true rfl⟩) (preRV (q := (RX5, TX5, 20)) (ci := 4) hK hPc rfl rfl) rfl rfl hl.1 rfl (lv_room (Nat.le_of_ble_eq_true rfl)) dX5_countOf_87 ⟨Nat.zero_le _, Nat.zero_le _⟩) ?_
    rw [show (nI (uc0 (rK mr) (rS mr) n) : Int32) = (if n = 0 then nI 0 else nI (ucF (rK mr) (rS mr) n)) from uc0_if]
    exact retRi hx hb hr hlocks (by first | (rw [w_7]; rfl) | (unfold ctF; simp [hn6, gS, gN, gI, w_7])) dX5_countOf_90
  by_cases w_9 : w = nI 7
  · skip
    refine lv_tableIn (tgt := 91) hx hb dX5_countOf_1 (by rw [w_9]; decide) (by rw [w_9]; decide) (by rw [w_9]; rfl) (by decide) ?_
    refine lv_aload_n hx hb dX5_countOf_91 rfl (lv_at hl 0 rfl) ?_
    refine va_get (D := (dC, dI)) (ci := 4) (v := .int (nI h)) (C := RX5) (T := TX5) (N := 20) hx hb hts inX5 hown hK hP 0 rfl rfl 8 (by decide) lf69 (fun _ h9 => h9) rfl dX5_countOf_92 ?_
    exact retRi hx hb hr hlocks (by first | (rw [w_9]; rfl) | (unfold ctF; simp [hn6, gS, gN, gI, w_9])) dX5_countOf_95
  by_cases w_10 : w = nI 8
  · skip
    refine lv_tableIn (tgt := 96) hx hb dX5_countOf_1 (by rw [w_10]; decide) (by rw [w_10]; decide) (by rw [w_10]; rfl) (by decide) ?_
    refine lv_aload_n hx hb dX5_countOf_96 rfl (lv_at hl 0 rfl) ?_
    refine va_get (D := (dC, dI)) (ci := 4) (v := .int (nI pn)) (C := RX5) (T := TX5) (N := 20) hx hb hts inX5 hown hK hP 0 rfl rfl 1 (by decide) lf41 (fun _ h9 => h9) rfl dX5_countOf_97 ?_
    exact retRi hx hb hr hlocks (by first | (rw [w_10]; rfl) | (unfold ctF; simp [hn6, gS, gN, gI, w_10])) dX5_countOf_100
  by_cases w_11 : w = nI 9
  · skip
    refine lv_tableIn (tgt := 101) hx hb dX5_countOf_1 (by rw [w_11]; decide) (by rw [w_11]; decide) (by rw [w_11]; rfl) (by decide) ?_
    refine lv_aload_n hx hb dX5_countOf_101 rfl (lv_at hl 0 rfl) ?_
    refine va_get (D := (dC, dI)) (ci := 4) (v := .int (sr)) (C := RX5) (T := TX5) (N := 20) hx hb hts inX5 hown hK hP 0 rfl rfl 5 (by decide) lf72 (fun _ h9 => h9) rfl dX5_countOf_102 ?_
    exact retRi hx hb hr hlocks (by first | (rw [w_11]; rfl) | (unfold ctF; simp [hn6, gS, gN, gI, w_11])) dX5_countOf_105
  have hsw : ¬ w = nI 0 ∧ ¬ w = nI 1 ∧ ¬ w = nI 2 ∧ ¬ w = nI 3 ∧ ¬ w = nI 4 ∧ ¬ w = nI 5 ∧ ¬ w = nI 6 ∧ ¬ w = nI 7 ∧ ¬ w = nI 8 ∧ ¬ w = nI 9 := ⟨w_1, w_2, w_3, w_4, w_5, w_6, w_7, w_9, w_10, w_11⟩
  refine lv_tableOut (tgt := 106) hx hb dX5_countOf_1 (by have z0 := w_tne (k := 0) (by decide) (hsw.1); have z1 := w_tne (k := 1) (by decide) (hsw.2.1); have z2 := w_tne (k := 2) (by decide) (hsw.2.2.1); have z3 := w_tne (k := 3) (by decide) (hsw.2.2.2.1); have z4 := w_tne (k := 4) (by decide) (hsw.2.2.2.2.1); have z5 := w_tne (k := 5) (by decide) (hsw.2.2.2.2.2.1); have z6 := w_tne (k := 6) (by decide) (hsw.2.2.2.2.2.2.1); have z7 := w_tne (k := 7) (by decide) (hsw.2.2.2.2.2.2.2.1); have z8 := w_tne (k := 8) (by decide) (hsw.2.2.2.2.2.2.2.2.1); have z9 := w_tne (k := 9) (by decide) (hsw.2.2.2.2.2.2.2.2.2); omega) (by decide) ?_
  refine lv_bipush (v := -102) hx hb dX5_countOf_106 (by decide) ?_
  exact retRi hx hb hr hlocks (by first | (rw [w_11]; rfl) | (unfold ctF; simp [hn6, gS, gN, gI, w_1, w_2, w_3, w_4, w_5, w_6, w_7, w_9, w_10, w_11])) dX5_countOf_108
set_option maxHeartbeats 1000000 in
set_option maxRecDepth 100000 in
theorem k_X5_count (l : Launch) (dC : Nat → ClassId) (dI : Nat → Nat → Nat) (cI cZ : ClassId) (m0 m1 m2 m3 m4 m5 m6 m7 : Nat) (mp mr mh mt mv mkr mkh : Nat → Int32) (pn n h sdn kh : Nat) (th tt sr tp ks kth ktt : Int32) (hs : Int64) (w : Int32) (hn6 : n ≤ 6) (gS : GS (rS mr)) (gN : GN (rN mr)) (gI : GI (rI mr)) : Met l yX5_count wsX5_count ({ frames := 5, cells := 0, slots := 0, locals := 112 }) (va_Pc [.ref m0, .int (w)] (PR (dC, dI) cI cZ [(m0, .inr (4, [.ref m1, .int (nI pn), .int (nI n), .int (th), .int (tt), .int (sr), .ref m2, .int (tp), .int (nI h), .ref m3, .ref m4, .int (nI sdn), .ref m5, .int (ks), .int (kth), .int (ktt), .int (nI kh), .ref m6, .ref m7, .long (hs)])), (m1, .inl (cI, 20, .inl (mp))), (m2, .inl (cI, 24, .inl (mr))), (m3, .inl (cI, 24, .inl (mh))), (m4, .inl (cI, 12, .inl (mt))), (m5, .inl (cI, 24, .inl (mv))), (m6, .inl (cI, 24, .inl (mkr))), (m7, .inl (cI, 24, .inl (mkh)))])) (QRi ((ctF n h th tt sr pn (rN mr) (rI mr) (rK mr) (rS mr) (bcx (ulF (rN mr) n)) w))) 0 0 noF := by
  refine Met.ofW (cc := cX5_count) (maxL := 2) (ret := (some .int)) (by decide) rfl ?_
  intro p e s m args below meth co s₁ B hml hv
  obtain ⟨rfl, hP, hK⟩ := hv
  have hx := B.exec
  have hb := B.bytes
  have hr := B.returns
  have hts := atoms_spec (ws := wsX5_count) B.pre
  have hown : s.vm.findClass RX5 = some m.cls := findClass_of_methodNamed B.named
  have hlocks := B.notSynchronized
  have hl := lv_entry ([.ref m0, .int (w)]) (n := 2) (Nat.le_of_ble_eq_true rfl)
  rw [lg_entry_eq]
  generalize (lg_sl ([.ref m0, .int (w)]) ++ List.replicate (2 - (lg_sl ([.ref m0, .int (w)])).length) Slot.unset).toArray = ls at hl ⊢
  have hl : lv_has ls 2 [(0, .ref m0), (1, .int (w))] := hl
  refine lv_aload_n hx hb dX5_count_0 rfl (lv_at hl 0 rfl) ?_
  refine lv_iload_n hx hb dX5_count_1 rfl (lv_at hl 1 rfl) ?_
  have hPc := hP.sub (ws' := [(m0, .inr (4, [.ref m1, .int (nI pn), .int (nI n), .int (th), .int (tt), .int (sr), .ref m2, .int (tp), .int (nI h), .ref m3, .ref m4, .int (nI sdn), .ref m5, .int (ks), .int (kth), .int (ktt), .int (nI kh), .ref m6, .ref m7, .long (hs)])), (m1, .inl (cI, 20, .inl (mp))), (m2, .inl (cI, 24, .inl (mr))), (m3, .inl (cI, 24, .inl (mh))), (m4, .inl (cI, 12, .inl (mt))), (m5, .inl (cI, 24, .inl (mv))), (m6, .inl (cI, 24, .inl (mkr))), (m7, .inl (cI, 24, .inl (mkh)))]) [0, 1, 2, 3, 4, 5, 6, 7] rfl
  refine callRi (v := (ctF n h th tt sr pn (rN mr) (rI mr) (rK mr) (rS mr) (bcx (ulF (rN mr) n)) w)) (W.runV (As := [.int (w)]) (rest := []) ⟨hx, hb, hml, hown, hts⟩ (k_X5_countOf l dC dI cI cZ m0 m1 m2 m3 m4 m5 m6 m7 (mp) (mr) (mh) (mt) (mv) (mkr) (mkh) (pn) (n) (h) (sdn) (kh) (th) (tt) (sr) (tp) (ks) (kth) (ktt) (hs) (w) (by first | omega | with_reducible assumption | (simp; omega)) (gS) (gN) (gI)) (cwV 1 hts gX5_count_X5_countOf rfl rfl rfl (by decide +kernel) ⟨Nat.le_of_ble_eq_true rfl, Nat.le_of_ble_eq_true rfl⟩) (preRV (q := (RX5, TX5, 20)) (ci := 4) hK hPc rfl rfl) rfl rfl hl.1 rfl (lv_room (Nat.le_of_ble_eq_true rfl)) dX5_count_2 ⟨Nat.zero_le _, Nat.zero_le _⟩) ?_
  exact retRi hx hb hr hlocks rfl dX5_count_5
