set_option maxHeartbeats 1000000 in
set_option maxRecDepth 100000 in
theorem k_X5_slipsOf (l : Launch) (dC : Nat → ClassId) (dI : Nat → Nat → Nat) (cI cZ : ClassId) (m0 m1 m2 m3 m4 m5 m6 m7 : Nat) (mp mr mh mt mv mkr mkh : Nat → Int32) (pn n h sdn kh : Nat) (th tt sr tp ks kth ktt : Int32) (hs : Int64) (c : Nat) (hh8 : h ≤ 8) (hc : c < 6) (gW : GR (hW mh)) : Met l yX5_slipsOf wsX5_slipsOf ({ frames := 1, cells := 0, slots := 0, locals := 23 }) (va_Pc [.ref m0, .int (nI c)] (PR (dC, dI) cI cZ [(m0, .inr (4, [.ref m1, .int (nI pn), .int (nI n), .int (th), .int (tt), .int (sr), .ref m2, .int (tp), .int (nI h), .ref m3, .ref m4, .int (nI sdn), .ref m5, .int (ks), .int (kth), .int (ktt), .int (nI kh), .ref m6, .ref m7, .long (hs)])), (m1, .inl (cI, 20, .inl (mp))), (m2, .inl (cI, 24, .inl (mr))), (m3, .inl (cI, 24, .inl (mh))), (m4, .inl (cI, 12, .inl (mt))), (m5, .inl (cI, 24, .inl (mv))), (m6, .inl (cI, 24, .inl (mkr))), (m7, .inl (cI, 24, .inl (mkh)))])) (QRi ((slF (hC mh) (hW mh) (hT mh) (rK mr c) (nI c) h 10))) 0 0 noF := by
  refine Met.ofW (cc := cX5_slipsOf) (maxL := 7) (ret := (some .int)) (by decide) rfl ?_
  intro p e s m args below meth co s₁ B hml hv
  obtain ⟨rfl, hP, hK⟩ := hv
  have hx := B.exec
  have hb := B.bytes
  have hr := B.returns
  have hts := atoms_spec (ws := wsX5_slipsOf) B.pre
  have hown : s.vm.findClass RX5 = some m.cls := findClass_of_methodNamed B.named
  have hlocks := B.notSynchronized
  have inX5 : ∀ w ∈ u_ws RX5 TX5 20, w ∈ wsX5_slipsOf := by decide +kernel
  have lf13 := hts (.fieldLink RX5 13 "ThursdayRungsModel" "rows" "[I") (by decide +kernel)
  have lf16 := hts (.fieldLink RX5 16 "ThursdayRungsModel" "heards" "[I") (by decide +kernel)
  have lf69 := hts (.fieldLink RX5 69 "ThursdayRungsModel" "heardMany" "I") (by decide +kernel)
  have hl := lv_entry ([.ref m0, .int (nI c)]) (n := 7) (Nat.le_of_ble_eq_true rfl)
  rw [lg_entry_eq]
  generalize (lg_sl ([.ref m0, .int (nI c)]) ++ List.replicate (7 - (lg_sl ([.ref m0, .int (nI c)])).length) Slot.unset).toArray = ls at hl ⊢
  have hl : lv_has ls 7 [(0, .ref m0), (1, .int (nI c))] := hl
  refine lv_iconst (v := nI 0) hx hb dX5_slipsOf_0 (by decide) ?_
  refine lv_istore_n (lv' := [(2, .int (nI 0)), (0, .ref m0), (1, .int (nI c))]) hx hb dX5_slipsOf_1 rfl hl (by decide) rfl (fun ls hl => ?_)
  refine lv_iconst (v := nI 0) hx hb dX5_slipsOf_2 (by decide) ?_
  refine lv_istore_n (lv' := [(3, .int (nI 0)), (2, .int (nI 0)), (0, .ref m0), (1, .int (nI c))]) hx hb dX5_slipsOf_3 rfl hl (by decide) rfl (fun ls hl => ?_)
  have lp4 : ∀ (fuel : Nat) (v : Nat), 10 - v < fuel → (v ≤ 10) → ∀ (ls : Array Slot), lv_has ls 7 [(0, .ref m0), (1, .int (nI c)), (2, .int ((slF (hC mh) (hW mh) (hT mh) (rK mr c) (nI c) h v))), (3, .int (nI v))] → W p l e (headSpec wsX5_slipsOf ({ frames := 1, cells := 0, slots := 0, locals := 23 })).room s m ([.ref m0, .int (nI c)] : List Value).toArray below meth co s.heap [] 0 0 (MQ below (QRi ((slF (hC mh) (hW mh) (hT mh) (rK mr c) (nI c) h 10))) ([.ref m0, .int (nI c)] : List Value).toArray s 0 0 noF) (F0 m 4 ls []) := by
    intro fuel
    induction fuel with
    | zero => intro v h0; exact absurd h0 (Nat.not_lt_zero _)
    | succ fuel ih4 =>
      intro v hm_1 hv ls hl
      refine lv_iload_n hx hb dX5_slipsOf_4 rfl (lv_at hl 3 rfl) ?_
      refine lv_bipush (v := nI 10) hx hb dX5_slipsOf_5 (by decide) ?_
      refine w_ci_ge (tgt := 126) hx hb (by omega) (by omega) dX5_slipsOf_7 (by decide) (fun c_2 => ?_) (fun c_2 => ?_)
      · skip
        refine lv_iload_n hx hb dX5_slipsOf_126 rfl (lv_at hl 2 rfl) ?_
        exact retRi hx hb hr hlocks (by rw [show v = 10 by omega]) dX5_slipsOf_127
      · skip
        refine lv_iconst (v := nI 1) hx hb dX5_slipsOf_10 (by decide) ?_
        refine lv_istore (lv' := [(4, .int (nI 1)), (0, .ref m0), (1, .int (nI c)), (2, .int ((slF (hC mh) (hW mh) (hT mh) (rK mr c) (nI c) h v))), (3, .int (nI v))]) hx hb dX5_slipsOf_11 hl (by decide) rfl (fun ls hl => ?_)
        refine lv_iconst (v := nI 0) hx hb dX5_slipsOf_13 (by decide) ?_
        refine lv_istore (lv' := [(5, .int (nI 0)), (4, .int (nI 1)), (0, .ref m0), (1, .int (nI c)), (2, .int ((slF (hC mh) (hW mh) (hT mh) (rK mr c) (nI c) h v))), (3, .int (nI v))]) hx hb dX5_slipsOf_14 hl (by decide) rfl (fun ls hl => ?_)
        have lp16 : ∀ (fuel : Nat) (i : Nat), h - i < fuel → (i ≤ h) → ∀ (ls : Array Slot), lv_has ls 7 [(0, .ref m0), (1, .int (nI c)), (2, .int ((slF (hC mh) (hW mh) (hT mh) (rK mr c) (nI c) h v))), (3, .int (nI v)), (4, .int ((if (exP (hC mh) (hW mh) (hT mh) (rK mr c) (nI c) (nI v) i) then nI 1 else nI 0))), (5, .int (nI i))] → W p l e (headSpec wsX5_slipsOf ({ frames := 1, cells := 0, slots := 0, locals := 23 })).room s m ([.ref m0, .int (nI c)] : List Value).toArray below meth co s.heap [] 0 0 (MQ below (QRi ((slF (hC mh) (hW mh) (hT mh) (rK mr c) (nI c) h 10))) ([.ref m0, .int (nI c)] : List Value).toArray s 0 0 noF) (F0 m 16 ls []) := by
          intro fuel
          induction fuel with
          | zero => intro i h0; exact absurd h0 (Nat.not_lt_zero _)
          | succ fuel ih16 =>
            intro i hm_3 hi ls hl
            refine lv_iload hx hb dX5_slipsOf_16 (lv_at hl 5 rfl) ?_
            refine lv_aload_n hx hb dX5_slipsOf_18 rfl (lv_at hl 0 rfl) ?_
            refine va_get (D := (dC, dI)) (ci := 4) (v := .int (nI h)) (C := RX5) (T := TX5) (N := 20) hx hb hts inX5 hown hK hP 0 rfl rfl 8 (by decide) lf69 (fun _ h9 => h9) rfl dX5_slipsOf_19 ?_
            refine w_ci_ge (tgt := 105) hx hb (by omega) (by omega) dX5_slipsOf_22 (by decide) (fun c_4 => ?_) (fun c_4 => ?_)
            · skip
              refine lv_iload_n hx hb dX5_slipsOf_105 rfl (lv_at hl 2 rfl) ?_
              refine lv_iload hx hb dX5_slipsOf_106 (lv_at hl 4 rfl) ?_
              refine w_ifeqB (tgt := 117) hx hb dX5_slipsOf_108 (by decide) (fun c_5 => ?_) (fun c_5 => ?_)
              · skip
                refine lv_iconst (v := nI 0) hx hb dX5_slipsOf_117 (by decide) ?_
                refine lv_ior hx hb dX5_slipsOf_118 ?_
                refine lv_istore_n (lv' := [(2, .int (((slF (hC mh) (hW mh) (hT mh) (rK mr c) (nI c) h v)) ||| (nI 0))), (0, .ref m0), (1, .int (nI c)), (3, .int (nI v)), (4, .int ((if (exP (hC mh) (hW mh) (hT mh) (rK mr c) (nI c) (nI v) i) then nI 1 else nI 0))), (5, .int (nI i))]) hx hb dX5_slipsOf_119 rfl hl (by decide) rfl (fun ls hl => ?_)
                refine lv_iinc (v := nI (v + 1)) (lv' := [(3, .int (nI (v + 1))), (2, .int (((slF (hC mh) (hW mh) (hT mh) (rK mr c) (nI c) h v)) ||| (nI 0))), (0, .ref m0), (1, .int (nI c)), (4, .int ((if (exP (hC mh) (hW mh) (hT mh) (rK mr c) (nI c) (nI v) i) then nI 1 else nI 0))), (5, .int (nI i))]) hx hb dX5_slipsOf_120 hl (k := 3) rfl w_inc1 (by decide) rfl (fun ls hl => ?_)
                refine lv_goto (tgt := 4) hx hb dX5_slipsOf_123 (by decide) ?_
                have he_6 : (((slF (hC mh) (hW mh) (hT mh) (rK mr c) (nI c) h v)) ||| (nI 0) : Int32) = (slF (hC mh) (hW mh) (hT mh) (rK mr c) (nI c) h (v + 1)) := by first | exact sl_b (by with_reducible assumption) (by omega) | exact sl_c (by with_reducible assumption) (by omega)
                have hl := lv_cong hl (show ([(3, .int (nI (v + 1))), (2, .int (((slF (hC mh) (hW mh) (hT mh) (rK mr c) (nI c) h v)) ||| (nI 0))), (0, .ref m0), (1, .int (nI c)), (4, .int ((if (exP (hC mh) (hW mh) (hT mh) (rK mr c) (nI c) (nI v) i) then nI 1 else nI 0))), (5, .int (nI i))] : List (Nat × Value)) = [(3, .int (nI ((v + 1)))), (2, .int ((slF (hC mh) (hW mh) (hT mh) (rK mr c) (nI c) h (v + 1)))), (0, .ref m0), (1, .int (nI c)), (4, .int ((if (exP (hC mh) (hW mh) (hT mh) (rK mr c) (nI c) (nI v) i) then nI 1 else nI 0))), (5, .int (nI i))] by rw [← he_6])
                exact ih4 (v + 1) (by omega) (by first | omega | with_reducible assumption | (first | with_reducible rfl | exact (if_pos (c_5)).symm | exact (if_neg (c_5)).symm | (simp [hh8, hc, gW, hv, c_2, hi, c_4, c_5]; done) | omega | rfl)) ls (lv_sub hl [2, 3, 1, 0] rfl)
              · skip
                refine lv_iconst (v := nI 1) hx hb dX5_slipsOf_111 (by decide) ?_
                refine lv_iload_n hx hb dX5_slipsOf_112 rfl (lv_at hl 3 rfl) ?_
                refine lv_ishl hx hb dX5_slipsOf_113 ?_
                refine lv_goto (tgt := 118) hx hb dX5_slipsOf_114 (by decide) ?_
                refine lv_ior hx hb dX5_slipsOf_118 ?_
                refine lv_istore_n (lv' := [(2, .int (((slF (hC mh) (hW mh) (hT mh) (rK mr c) (nI c) h v)) ||| ((nI 1) <<< ((nI v) &&& 31)))), (0, .ref m0), (1, .int (nI c)), (3, .int (nI v)), (4, .int ((if (exP (hC mh) (hW mh) (hT mh) (rK mr c) (nI c) (nI v) i) then nI 1 else nI 0))), (5, .int (nI i))]) hx hb dX5_slipsOf_119 rfl hl (by decide) rfl (fun ls hl => ?_)
                refine lv_iinc (v := nI (v + 1)) (lv' := [(3, .int (nI (v + 1))), (2, .int (((slF (hC mh) (hW mh) (hT mh) (rK mr c) (nI c) h v)) ||| ((nI 1) <<< ((nI v) &&& 31)))), (0, .ref m0), (1, .int (nI c)), (4, .int ((if (exP (hC mh) (hW mh) (hT mh) (rK mr c) (nI c) (nI v) i) then nI 1 else nI 0))), (5, .int (nI i))]) hx hb dX5_slipsOf_120 hl (k := 3) rfl w_inc1 (by decide) rfl (fun ls hl => ?_)
                refine lv_goto (tgt := 4) hx hb dX5_slipsOf_123 (by decide) ?_
                have he_7 : (((slF (hC mh) (hW mh) (hT mh) (rK mr c) (nI c) h v)) ||| ((nI 1) <<< ((nI v) &&& 31)) : Int32) = (slF (hC mh) (hW mh) (hT mh) (rK mr c) (nI c) h (v + 1)) := by first | exact sl_b (by with_reducible assumption) (by omega) | exact sl_c (by with_reducible assumption) (by omega)
                have hl := lv_cong hl (show ([(3, .int (nI (v + 1))), (2, .int (((slF (hC mh) (hW mh) (hT mh) (rK mr c) (nI c) h v)) ||| ((nI 1) <<< ((nI v) &&& 31)))), (0, .ref m0), (1, .int (nI c)), (4, .int ((if (exP (hC mh) (hW mh) (hT mh) (rK mr c) (nI c) (nI v) i) then nI 1 else nI 0))), (5, .int (nI i))] : List (Nat × Value)) = [(3, .int (nI ((v + 1)))), (2, .int ((slF (hC mh) (hW mh) (hT mh) (rK mr c) (nI c) h (v + 1)))), (0, .ref m0), (1, .int (nI c)), (4, .int ((if (exP (hC mh) (hW mh) (hT mh) (rK mr c) (nI c) (nI v) i) then nI 1 else nI 0))), (5, .int (nI i))] by rw [← he_7])
                exact ih4 (v + 1) (by omega) (by first | omega | with_reducible assumption | (first | with_reducible rfl | exact (if_pos (c_5)).symm | exact (if_neg (c_5)).symm | (simp [hh8, hc, gW, hv, c_2, hi, c_4, c_5]; done) | omega | rfl)) ls (lv_sub hl [2, 3, 1, 0] rfl)
            · skip
              refine lv_aload_n hx hb dX5_slipsOf_25 rfl (lv_at hl 0 rfl) ?_
              refine va_get (D := (dC, dI)) (ci := 4) (v := .ref m2) (C := RX5) (T := TX5) (N := 20) hx hb hts inX5 hown hK hP 0 rfl rfl 6 (by decide) lf13 (fun _ h9 => h9) rfl dX5_slipsOf_26 ?_
              refine lv_iconst (v := nI 4) hx hb dX5_slipsOf_29 (by decide) ?_
              refine lv_iload_n hx hb dX5_slipsOf_30 rfl (lv_at hl 1 rfl) ?_
              refine w_mulN hx hb dX5_slipsOf_31 ?_
              refine w_iald (k := 4 * c) hx hb hK hP 2 0 rfl rfl (by omega) (by decide) dX5_slipsOf_32 ?_
              refine lv_iload_n hx hb dX5_slipsOf_33 rfl (lv_at hl 3 rfl) ?_
              refine lv_aload_n hx hb dX5_slipsOf_34 rfl (lv_at hl 0 rfl) ?_
              refine va_get (D := (dC, dI)) (ci := 4) (v := .ref m3) (C := RX5) (T := TX5) (N := 20) hx hb hts inX5 hown hK hP 0 rfl rfl 9 (by decide) lf16 (fun _ h9 => h9) rfl dX5_slipsOf_35 ?_
              refine lv_iconst (v := nI 3) hx hb dX5_slipsOf_38 (by decide) ?_
              refine lv_iload hx hb dX5_slipsOf_39 (lv_at hl 5 rfl) ?_
              refine w_mulN hx hb dX5_slipsOf_41 ?_
              refine lv_iconst (v := nI 1) hx hb dX5_slipsOf_42 (by decide) ?_
              refine w_addN hx hb dX5_slipsOf_43 ?_
              refine w_iald (k := (3 * i) + 1) hx hb hK hP 3 0 rfl rfl (by omega) (by decide) dX5_slipsOf_44 ?_
              have hPc := hP.sub (ws' := []) [] rfl
              refine callRi (v := (tb (mr (4 * c)) (nI v) (mh ((3 * i) + 1)))) (W.runS (As := [.int (mr (4 * c)), .int (nI v), .int (mh ((3 * i) + 1))]) (rest := []) ⟨hx, hb, hml, hown, hts⟩ (k_X5_teachesBy l dC dI cI cZ (mr (4 * c)) (nI v) (mh ((3 * i) + 1)) (⟨v, by omega, rfl⟩) (gW i)) (va_cwS 3 hts gX5_slipsOf_X5_teachesBy rfl rfl rfl (by decide +kernel) ⟨Nat.le_of_ble_eq_true rfl, Nat.le_of_ble_eq_true rfl⟩) (preRS hK hPc) rfl rfl hl.1 rfl (lv_room (Nat.le_of_ble_eq_true rfl)) dX5_slipsOf_45 ⟨Nat.zero_le _, Nat.zero_le _⟩) ?_
              refine lv_aload_n hx hb dX5_slipsOf_48 rfl (lv_at hl 0 rfl) ?_
              refine va_get (D := (dC, dI)) (ci := 4) (v := .ref m3) (C := RX5) (T := TX5) (N := 20) hx hb hts inX5 hown hK hP 0 rfl rfl 9 (by decide) lf16 (fun _ h9 => h9) rfl dX5_slipsOf_49 ?_
              refine lv_iconst (v := nI 3) hx hb dX5_slipsOf_52 (by decide) ?_
              refine lv_iload hx hb dX5_slipsOf_53 (lv_at hl 5 rfl) ?_
              refine w_mulN hx hb dX5_slipsOf_55 ?_
              refine lv_iconst (v := nI 2) hx hb dX5_slipsOf_56 (by decide) ?_
              refine w_addN hx hb dX5_slipsOf_57 ?_
              refine w_iald (k := (3 * i) + 2) hx hb hK hP 3 0 rfl rfl (by omega) (by decide) dX5_slipsOf_58 ?_
              refine lv_icmp_ne (tgt := 66) hx hb dX5_slipsOf_59 (by decide) (fun c_8 => ?_) (fun c_8 => ?_)
              · skip
                have hnfit := c_8
                refine lv_iconst (v := nI 0) hx hb dX5_slipsOf_66 (by decide) ?_
                refine lv_istore (lv' := [(6, .int (nI 0)), (0, .ref m0), (1, .int (nI c)), (2, .int ((slF (hC mh) (hW mh) (hT mh) (rK mr c) (nI c) h v))), (3, .int (nI v)), (4, .int ((if (exP (hC mh) (hW mh) (hT mh) (rK mr c) (nI c) (nI v) i) then nI 1 else nI 0))), (5, .int (nI i))]) hx hb dX5_slipsOf_67 hl (by decide) rfl (fun ls hl => ?_)
                refine lv_iload hx hb dX5_slipsOf_69 (lv_at hl 5 rfl) ?_
                refine w_ifeqB (tgt := 96) hx hb dX5_slipsOf_71 (by decide) (fun c_9 => ?_) (fun c_9 => ?_)
                · skip
                  have hnex := c_9
                  refine lv_iconst (v := nI 0) hx hb dX5_slipsOf_96 (by decide) ?_
                  refine lv_istore (lv' := [(4, .int (nI 0)), (6, .int (nI 0)), (0, .ref m0), (1, .int (nI c)), (2, .int ((slF (hC mh) (hW mh) (hT mh) (rK mr c) (nI c) h v))), (3, .int (nI v)), (5, .int (nI i))]) hx hb dX5_slipsOf_97 hl (by decide) rfl (fun ls hl => ?_)
                  refine lv_iinc (v := nI (i + 1)) (lv' := [(5, .int (nI (i + 1))), (4, .int (nI 0)), (6, .int (nI 0)), (0, .ref m0), (1, .int (nI c)), (2, .int ((slF (hC mh) (hW mh) (hT mh) (rK mr c) (nI c) h v))), (3, .int (nI v))]) hx hb dX5_slipsOf_99 hl (k := 6) rfl w_inc1 (by decide) rfl (fun ls hl => ?_)
                  refine lv_goto (tgt := 16) hx hb dX5_slipsOf_102 (by decide) ?_
                  have he_10 : (nI 0 : Int32) = (if (exP (hC mh) (hW mh) (hT mh) (rK mr c) (nI c) (nI v) (i + 1)) then nI 1 else nI 0) := by first | exact w_ite1 (ex_iff.mpr ⟨hex, fun q => absurd q c_9⟩) | exact w_ite1 (ex_iff.mpr ⟨hex, fun _ => hfit⟩) | exact w_ite0 (fun q => hnex (ex_iff.mp q).1) | exact w_ite0 (fun q => hnfit ((ex_iff.mp q).2 c_9))
                  have hl := lv_cong hl (show ([(5, .int (nI (i + 1))), (4, .int (nI 0)), (6, .int (nI 0)), (0, .ref m0), (1, .int (nI c)), (2, .int ((slF (hC mh) (hW mh) (hT mh) (rK mr c) (nI c) h v))), (3, .int (nI v))] : List (Nat × Value)) = [(5, .int (nI ((i + 1)))), (4, .int ((if (exP (hC mh) (hW mh) (hT mh) (rK mr c) (nI c) (nI v) (i + 1)) then nI 1 else nI 0))), (6, .int (nI 0)), (0, .ref m0), (1, .int (nI c)), (2, .int ((slF (hC mh) (hW mh) (hT mh) (rK mr c) (nI c) h v))), (3, .int (nI v))] by rw [← he_10])
                  exact ih16 (i + 1) (by omega) (by first | omega | with_reducible assumption | (first | with_reducible rfl | exact (if_pos (c_9)).symm | exact (if_neg (c_9)).symm | (simp [hh8, hc, gW, hv, c_2, hi, c_4, c_8, c_9]; done) | omega | rfl)) ls (lv_sub hl [3, 4, 5, 6, 1, 0] rfl)
                · skip
                  have hex := c_9
                  refine lv_aload_n hx hb dX5_slipsOf_74 rfl (lv_at hl 1 rfl) ?_
                  refine va_get (D := (dC, dI)) (ci := 4) (v := .ref m3) (C := RX5) (T := TX5) (N := 20) hx hb hts inX5 hown hK hP 0 rfl rfl 9 (by decide) lf16 (fun _ h9 => h9) rfl dX5_slipsOf_75 ?_
                  refine lv_iconst (v := nI 3) hx hb dX5_slipsOf_78 (by decide) ?_
                  refine lv_iload hx hb dX5_slipsOf_79 (lv_at hl 6 rfl) ?_
                  refine w_mulN hx hb dX5_slipsOf_81 ?_
                  refine w_iald (k := 3 * i) hx hb hK hP 3 0 rfl rfl (by omega) (by decide) dX5_slipsOf_82 ?_
                  refine lv_iload_n hx hb dX5_slipsOf_83 rfl (lv_at hl 2 rfl) ?_
                  refine lv_icmp_ne (tgt := 92) hx hb dX5_slipsOf_84 (by decide) (fun c_11 => ?_) (fun c_11 => ?_)
                  · skip
                    refine lv_iconst (v := nI 1) hx hb dX5_slipsOf_92 (by decide) ?_
                    refine lv_goto (tgt := 97) hx hb dX5_slipsOf_93 (by decide) ?_
                    refine lv_istore (lv' := [(4, .int (nI 1)), (6, .int (nI 0)), (0, .ref m0), (1, .int (nI c)), (2, .int ((slF (hC mh) (hW mh) (hT mh) (rK mr c) (nI c) h v))), (3, .int (nI v)), (5, .int (nI i))]) hx hb dX5_slipsOf_97 hl (by decide) rfl (fun ls hl => ?_)
                    refine lv_iinc (v := nI (i + 1)) (lv' := [(5, .int (nI (i + 1))), (4, .int (nI 1)), (6, .int (nI 0)), (0, .ref m0), (1, .int (nI c)), (2, .int ((slF (hC mh) (hW mh) (hT mh) (rK mr c) (nI c) h v))), (3, .int (nI v))]) hx hb dX5_slipsOf_99 hl (k := 6) rfl w_inc1 (by decide) rfl (fun ls hl => ?_)
                    refine lv_goto (tgt := 16) hx hb dX5_slipsOf_102 (by decide) ?_
                    have he_12 : (nI 1 : Int32) = (if (exP (hC mh) (hW mh) (hT mh) (rK mr c) (nI c) (nI v) (i + 1)) then nI 1 else nI 0) := by first | exact w_ite1 (ex_iff.mpr ⟨hex, fun q => absurd q c_11⟩) | exact w_ite1 (ex_iff.mpr ⟨hex, fun _ => hfit⟩) | exact w_ite0 (fun q => hnex (ex_iff.mp q).1) | exact w_ite0 (fun q => hnfit ((ex_iff.mp q).2 c_11))
                    have hl := lv_cong hl (show ([(5, .int (nI (i + 1))), (4, .int (nI 1)), (6, .int (nI 0)), (0, .ref m0), (1, .int (nI c)), (2, .int ((slF (hC mh) (hW mh) (hT mh) (rK mr c) (nI c) h v))), (3, .int (nI v))] : List (Nat × Value)) = [(5, .int (nI ((i + 1)))), (4, .int ((if (exP (hC mh) (hW mh) (hT mh) (rK mr c) (nI c) (nI v) (i + 1)) then nI 1 else nI 0))), (6, .int (nI 0)), (0, .ref m0), (1, .int (nI c)), (2, .int ((slF (hC mh) (hW mh) (hT mh) (rK mr c) (nI c) h v))), (3, .int (nI v))] by rw [← he_12])
                    exact ih16 (i + 1) (by omega) (by first | omega | with_reducible assumption | (first | with_reducible rfl | exact (if_pos (c_11)).symm | exact (if_neg (c_11)).symm | (simp [hh8, hc, gW, hv, c_2, hi, c_4, c_8, c_9, c_11]; done) | omega | rfl)) ls (lv_sub hl [3, 4, 5, 6, 1, 0] rfl)
                  · skip
                    refine lv_iload hx hb dX5_slipsOf_87 (lv_at hl 0 rfl) ?_
                    refine w_ifeqN (tgt := 96) hx hb (by omega) dX5_slipsOf_89 (by decide) (fun c_13 => ?_) (fun c_13 => ?_)
                    · skip
                      refine lv_iconst (v := nI 0) hx hb dX5_slipsOf_96 (by decide) ?_
                      refine lv_istore (lv' := [(4, .int (nI 0)), (6, .int (nI 0)), (0, .ref m0), (1, .int (nI c)), (2, .int ((slF (hC mh) (hW mh) (hT mh) (rK mr c) (nI c) h v))), (3, .int (nI v)), (5, .int (nI i))]) hx hb dX5_slipsOf_97 hl (by decide) rfl (fun ls hl => ?_)
                      refine lv_iinc (v := nI (i + 1)) (lv' := [(5, .int (nI (i + 1))), (4, .int (nI 0)), (6, .int (nI 0)), (0, .ref m0), (1, .int (nI c)), (2, .int ((slF (hC mh) (hW mh) (hT mh) (rK mr c) (nI c) h v))), (3, .int (nI v))]) hx hb dX5_slipsOf_99 hl (k := 6) rfl w_inc1 (by decide) rfl (fun ls hl => ?_)
                      refine lv_goto (tgt := 16) hx hb dX5_slipsOf_102 (by decide) ?_
                      have he_14 : (nI 0 : Int32) = (if (exP (hC mh) (hW mh) (hT mh) (rK mr c) (nI c) (nI v) (i + 1)) then nI 1 else nI 0) := by first | exact w_ite1 (ex_iff.mpr ⟨hex, fun q => absurd q c_11⟩) | exact w_ite1 (ex_iff.mpr ⟨hex, fun _ => hfit⟩) | exact w_ite0 (fun q => hnex (ex_iff.mp q).1) | exact w_ite0 (fun q => hnfit ((ex_iff.mp q).2 c_11))
                      have hl := lv_cong hl (show ([(5, .int (nI (i + 1))), (4, .int (nI 0)), (6, .int (nI 0)), (0, .ref m0), (1, .int (nI c)), (2, .int ((slF (hC mh) (hW mh) (hT mh) (rK mr c) (nI c) h v))), (3, .int (nI v))] : List (Nat × Value)) = [(5, .int (nI ((i + 1)))), (4, .int ((if (exP (hC mh) (hW mh) (hT mh) (rK mr c) (nI c) (nI v) (i + 1)) then nI 1 else nI 0))), (6, .int (nI 0)), (0, .ref m0), (1, .int (nI c)), (2, .int ((slF (hC mh) (hW mh) (hT mh) (rK mr c) (nI c) h v))), (3, .int (nI v))] by rw [← he_14])
                      exact ih16 (i + 1) (by omega) (by first | omega | with_reducible assumption | (first | with_reducible rfl | exact (if_pos (c_11)).symm | exact (if_neg (c_11)).symm | (simp [hh8, hc, gW, hv, c_2, hi, c_4, c_8, c_9, c_11]; done) | omega | rfl)) ls (lv_sub hl [3, 4, 5, 6, 1, 0] rfl)
                    · skip
                      first | exact absurd c_13 (by decide) | exact (c_13 : False).elim | omega
              · skip
                have hfit := c_8
                refine lv_iconst (v := nI 1) hx hb dX5_slipsOf_62 (by decide) ?_
                refine lv_goto (tgt := 67) hx hb dX5_slipsOf_63 (by decide) ?_
                refine lv_istore (lv' := [(6, .int (nI 1)), (0, .ref m0), (1, .int (nI c)), (2, .int ((slF (hC mh) (hW mh) (hT mh) (rK mr c) (nI c) h v))), (3, .int (nI v)), (4, .int ((if (exP (hC mh) (hW mh) (hT mh) (rK mr c) (nI c) (nI v) i) then nI 1 else nI 0))), (5, .int (nI i))]) hx hb dX5_slipsOf_67 hl (by decide) rfl (fun ls hl => ?_)
                refine lv_iload hx hb dX5_slipsOf_69 (lv_at hl 5 rfl) ?_
                refine w_ifeqB (tgt := 96) hx hb dX5_slipsOf_71 (by decide) (fun c_15 => ?_) (fun c_15 => ?_)
                · skip
                  have hnex := c_15
                  refine lv_iconst (v := nI 0) hx hb dX5_slipsOf_96 (by decide) ?_
                  refine lv_istore (lv' := [(4, .int (nI 0)), (6, .int (nI 1)), (0, .ref m0), (1, .int (nI c)), (2, .int ((slF (hC mh) (hW mh) (hT mh) (rK mr c) (nI c) h v))), (3, .int (nI v)), (5, .int (nI i))]) hx hb dX5_slipsOf_97 hl (by decide) rfl (fun ls hl => ?_)
                  refine lv_iinc (v := nI (i + 1)) (lv' := [(5, .int (nI (i + 1))), (4, .int (nI 0)), (6, .int (nI 1)), (0, .ref m0), (1, .int (nI c)), (2, .int ((slF (hC mh) (hW mh) (hT mh) (rK mr c) (nI c) h v))), (3, .int (nI v))]) hx hb dX5_slipsOf_99 hl (k := 6) rfl w_inc1 (by decide) rfl (fun ls hl => ?_)
                  refine lv_goto (tgt := 16) hx hb dX5_slipsOf_102 (by decide) ?_
                  have he_16 : (nI 0 : Int32) = (if (exP (hC mh) (hW mh) (hT mh) (rK mr c) (nI c) (nI v) (i + 1)) then nI 1 else nI 0) := by first | exact w_ite1 (ex_iff.mpr ⟨hex, fun q => absurd q c_15⟩) | exact w_ite1 (ex_iff.mpr ⟨hex, fun _ => hfit⟩) | exact w_ite0 (fun q => hnex (ex_iff.mp q).1) | exact w_ite0 (fun q => hnfit ((ex_iff.mp q).2 c_15))
                  have hl := lv_cong hl (show ([(5, .int (nI (i + 1))), (4, .int (nI 0)), (6, .int (nI 1)), (0, .ref m0), (1, .int (nI c)), (2, .int ((slF (hC mh) (hW mh) (hT mh) (rK mr c) (nI c) h v))), (3, .int (nI v))] : List (Nat × Value)) = [(5, .int (nI ((i + 1)))), (4, .int ((if (exP (hC mh) (hW mh) (hT mh) (rK mr c) (nI c) (nI v) (i + 1)) then nI 1 else nI 0))), (6, .int (nI 1)), (0, .ref m0), (1, .int (nI c)), (2, .int ((slF (hC mh) (hW mh) (hT mh) (rK mr c) (nI c) h v))), (3, .int (nI v))] by rw [← he_16])
                  exact ih16 (i + 1) (by omega) (by first | omega | with_reducible assumption | (first | with_reducible rfl | exact (if_pos (c_15)).symm | exact (if_neg (c_15)).symm | (simp [hh8, hc, gW, hv, c_2, hi, c_4, c_8, c_15]; done) | omega | rfl)) ls (lv_sub hl [3, 4, 5, 6, 1, 0] rfl)
                · skip
                  have hex := c_15
                  refine lv_aload_n hx hb dX5_slipsOf_74 rfl (lv_at hl 1 rfl) ?_
                  refine va_get (D := (dC, dI)) (ci := 4) (v := .ref m3) (C := RX5) (T := TX5) (N := 20) hx hb hts inX5 hown hK hP 0 rfl rfl 9 (by decide) lf16 (fun _ h9 => h9) rfl dX5_slipsOf_75 ?_
                  refine lv_iconst (v := nI 3) hx hb dX5_slipsOf_78 (by decide) ?_
                  refine lv_iload hx hb dX5_slipsOf_79 (lv_at hl 6 rfl) ?_
                  refine w_mulN hx hb dX5_slipsOf_81 ?_
                  refine w_iald (k := 3 * i) hx hb hK hP 3 0 rfl rfl (by omega) (by decide) dX5_slipsOf_82 ?_
                  refine lv_iload_n hx hb dX5_slipsOf_83 rfl (lv_at hl 2 rfl) ?_
                  refine lv_icmp_ne (tgt := 92) hx hb dX5_slipsOf_84 (by decide) (fun c_17 => ?_) (fun c_17 => ?_)
                  · skip
                    refine lv_iconst (v := nI 1) hx hb dX5_slipsOf_92 (by decide) ?_
                    refine lv_goto (tgt := 97) hx hb dX5_slipsOf_93 (by decide) ?_
                    refine lv_istore (lv' := [(4, .int (nI 1)), (6, .int (nI 1)), (0, .ref m0), (1, .int (nI c)), (2, .int ((slF (hC mh) (hW mh) (hT mh) (rK mr c) (nI c) h v))), (3, .int (nI v)), (5, .int (nI i))]) hx hb dX5_slipsOf_97 hl (by decide) rfl (fun ls hl => ?_)
                    refine lv_iinc (v := nI (i + 1)) (lv' := [(5, .int (nI (i + 1))), (4, .int (nI 1)), (6, .int (nI 1)), (0, .ref m0), (1, .int (nI c)), (2, .int ((slF (hC mh) (hW mh) (hT mh) (rK mr c) (nI c) h v))), (3, .int (nI v))]) hx hb dX5_slipsOf_99 hl (k := 6) rfl w_inc1 (by decide) rfl (fun ls hl => ?_)
                    refine lv_goto (tgt := 16) hx hb dX5_slipsOf_102 (by decide) ?_
                    have he_18 : (nI 1 : Int32) = (if (exP (hC mh) (hW mh) (hT mh) (rK mr c) (nI c) (nI v) (i + 1)) then nI 1 else nI 0) := by first | exact w_ite1 (ex_iff.mpr ⟨hex, fun q => absurd q c_17⟩) | exact w_ite1 (ex_iff.mpr ⟨hex, fun _ => hfit⟩) | exact w_ite0 (fun q => hnex (ex_iff.mp q).1) | exact w_ite0 (fun q => hnfit ((ex_iff.mp q).2 c_17))
                    have hl := lv_cong hl (show ([(5, .int (nI (i + 1))), (4, .int (nI 1)), (6, .int (nI 1)), (0, .ref m0), (1, .int (nI c)), (2, .int ((slF (hC mh) (hW mh) (hT mh) (rK mr c) (nI c) h v))), (3, .int (nI v))] : List (Nat × Value)) = [(5, .int (nI ((i + 1)))), (4, .int ((if (exP (hC mh) (hW mh) (hT mh) (rK mr c) (nI c) (nI v) (i + 1)) then nI 1 else nI 0))), (6, .int (nI 1)), (0, .ref m0), (1, .int (nI c)), (2, .int ((slF (hC mh) (hW mh) (hT mh) (rK mr c) (nI c) h v))), (3, .int (nI v))] by rw [← he_18])
                    exact ih16 (i + 1) (by omega) (by first | omega | with_reducible assumption | (first | with_reducible rfl | exact (if_pos (c_17)).symm | exact (if_neg (c_17)).symm | (simp [hh8, hc, gW, hv, c_2, hi, c_4, c_8, c_15, c_17]; done) | omega | rfl)) ls (lv_sub hl [3, 4, 5, 6, 1, 0] rfl)
                  · skip
                    refine lv_iload hx hb dX5_slipsOf_87 (lv_at hl 0 rfl) ?_
                    refine w_ifeqN (tgt := 96) hx hb (by omega) dX5_slipsOf_89 (by decide) (fun c_19 => ?_) (fun c_19 => ?_)
                    · skip
                      first | exact absurd c_19 (by decide) | exact (c_19 : False).elim | omega
                    · skip
                      refine lv_iconst (v := nI 1) hx hb dX5_slipsOf_92 (by decide) ?_
                      refine lv_goto (tgt := 97) hx hb dX5_slipsOf_93 (by decide) ?_
                      refine lv_istore (lv' := [(4, .int (nI 1)), (6, .int (nI 1)), (0, .ref m0), (1, .int (nI c)), (2, .int ((slF (hC mh) (hW mh) (hT mh) (rK mr c) (nI c) h v))), (3, .int (nI v)), (5, .int (nI i))]) hx hb dX5_slipsOf_97 hl (by decide) rfl (fun ls hl => ?_)
                      refine lv_iinc (v := nI (i + 1)) (lv' := [(5, .int (nI (i + 1))), (4, .int (nI 1)), (6, .int (nI 1)), (0, .ref m0), (1, .int (nI c)), (2, .int ((slF (hC mh) (hW mh) (hT mh) (rK mr c) (nI c) h v))), (3, .int (nI v))]) hx hb dX5_slipsOf_99 hl (k := 6) rfl w_inc1 (by decide) rfl (fun ls hl => ?_)
                      refine lv_goto (tgt := 16) hx hb dX5_slipsOf_102 (by decide) ?_
                      have he_20 : (nI 1 : Int32) = (if (exP (hC mh) (hW mh) (hT mh) (rK mr c) (nI c) (nI v) (i + 1)) then nI 1 else nI 0) := by first | exact w_ite1 (ex_iff.mpr ⟨hex, fun q => absurd q c_17⟩) | exact w_ite1 (ex_iff.mpr ⟨hex, fun _ => hfit⟩) | exact w_ite0 (fun q => hnex (ex_iff.mp q).1) | exact w_ite0 (fun q => hnfit ((ex_iff.mp q).2 c_17))
                      have hl := lv_cong hl (show ([(5, .int (nI (i + 1))), (4, .int (nI 1)), (6, .int (nI 1)), (0, .ref m0), (1, .int (nI c)), (2, .int ((slF (hC mh) (hW mh) (hT mh) (rK mr c) (nI c) h v))), (3, .int (nI v))] : List (Nat × Value)) = [(5, .int (nI ((i + 1)))), (4, .int ((if (exP (hC mh) (hW mh) (hT mh) (rK mr c) (nI c) (nI v) (i + 1)) then nI 1 else nI 0))), (6, .int (nI 1)), (0, .ref m0), (1, .int (nI c)), (2, .int ((slF (hC mh) (hW mh) (hT mh) (rK mr c) (nI c) h v))), (3, .int (nI v))] by rw [← he_20])
                      exact ih16 (i + 1) (by omega) (by first | omega | with_reducible assumption | (first | with_reducible rfl | exact (if_pos (c_17)).symm | exact (if_neg (c_17)).symm | (simp [hh8, hc, gW, hv, c_2, hi, c_4, c_8, c_15, c_17]; done) | omega | rfl)) ls (lv_sub hl [3, 4, 5, 6, 1, 0] rfl)
        have he_21 : (nI 1 : Int32) = (if (exP (hC mh) (hW mh) (hT mh) (rK mr c) (nI c) (nI v) 0) then nI 1 else nI 0) := by exact w_ite1 (fun j hj => absurd hj (Nat.not_lt_zero _))
        have hl := lv_cong hl (show ([(5, .int (nI 0)), (4, .int (nI 1)), (0, .ref m0), (1, .int (nI c)), (2, .int ((slF (hC mh) (hW mh) (hT mh) (rK mr c) (nI c) h v))), (3, .int (nI v))] : List (Nat × Value)) = [(5, .int (nI 0)), (4, .int ((if (exP (hC mh) (hW mh) (hT mh) (rK mr c) (nI c) (nI v) 0) then nI 1 else nI 0))), (0, .ref m0), (1, .int (nI c)), (2, .int ((slF (hC mh) (hW mh) (hT mh) (rK mr c) (nI c) h v))), (3, .int (nI v))] by rw [← he_21])
        exact lp16 (h - 0 + 1) (0) (Nat.lt_succ_self _) (by first | omega | with_reducible assumption | (first | with_reducible rfl | exact (if_pos (c_2)).symm | exact (if_neg (c_2)).symm | (simp [hh8, hc, gW, hv, c_2]; done) | omega | rfl)) ls (lv_sub hl [2, 3, 4, 5, 1, 0] rfl)
  have he_22 : (nI 0 : Int32) = (slF (hC mh) (hW mh) (hT mh) (rK mr c) (nI c) h 0) := by first | with_reducible rfl | exact (if_pos (gW)).symm | exact (if_neg (gW)).symm | (simp [hh8, hc, gW]; done) | omega | rfl
  have hl := lv_cong hl (show ([(3, .int (nI 0)), (2, .int (nI 0)), (0, .ref m0), (1, .int (nI c))] : List (Nat × Value)) = [(3, .int (nI 0)), (2, .int ((slF (hC mh) (hW mh) (hT mh) (rK mr c) (nI c) h 0))), (0, .ref m0), (1, .int (nI c))] by rw [← he_22])
  exact lp4 (10 - 0 + 1) (0) (Nat.lt_succ_self _) (by first | omega | with_reducible assumption | (first | with_reducible rfl | exact (if_pos (gW)).symm | exact (if_neg (gW)).symm | (simp [hh8, hc, gW]; done) | omega | rfl)) ls (lv_sub hl [2, 3, 1, 0] rfl)
