set_option maxHeartbeats 4000000 in
set_option maxRecDepth 100000 in
theorem k_X3_bestToCure (l : Launch) (dC : Nat → ClassId) (dI : Nat → Nat → Nat) (cI cZ : ClassId) (q0 q1 q2 q3 q4 q5 q6 q7 : Nat) (fk fs fn fi fc fw ft : Nat → Int32) (n h : Nat) (th tt : Int32) (hn1 : 1 ≤ n) (hn6 : n ≤ 6) : Met l yX3_bestToCure wsX3_bestToCure ({ frames := 3, cells := 0, slots := 0, locals := 70 }) (va_Pc [.ref q0] (PR (dC, dI) cI cZ [(q0, .inr (2, [.ref q1, .ref q2, .ref q3, .ref q4, .ref q5, .ref q6, .ref q7, .int (nI n), .int (nI h), .int (th), .int (tt)])), (q1, .inl (cI, 6, .inl (fk))), (q2, .inl (cI, 6, .inl (fs))), (q3, .inl (cI, 6, .inl (fn))), (q4, .inl (cZ, 6, .inl (fi))), (q5, .inl (cI, 8, .inl (fc))), (q6, .inl (cI, 8, .inl (fw))), (q7, .inl (cI, 8, .inl (ft)))])) (QRi ((bcF (fun i => ucF fk (cuF fs (nI i)) n) (ucF fk fs n) n).1)) 0 0 noF := by
  refine Met.ofW (cc := cX3_bestToCure) (maxL := 5) (ret := (some .int)) (by decide) rfl ?_
  intro p e s m args below meth co s₁ B hml hv
  obtain ⟨rfl, hP, hK⟩ := hv
  have hx := B.exec
  have hb := B.bytes
  have hr := B.returns
  have hts := atoms_spec (ws := wsX3_bestToCure) B.pre
  have hown : s.vm.findClass RX3 = some m.cls := findClass_of_methodNamed B.named
  have hlocks := B.notSynchronized
  have inX3 : ∀ w ∈ u_ws RX3 TX3 11, w ∈ wsX3_bestToCure := by decide +kernel
  have lf34 := hts (.fieldLink RX3 34 "ThursdayRungs$School" "size" "I") (by decide +kernel)
  have hl := lv_entry ([.ref q0]) (n := 5) (Nat.le_of_ble_eq_true rfl)
  rw [lg_entry_eq]
  generalize (lg_sl ([.ref q0]) ++ List.replicate (5 - (lg_sl ([.ref q0])).length) Slot.unset).toArray = ls at hl ⊢
  have hl : lv_has ls 5 [(0, .ref q0)] := hl
  refine lv_iconst (v := -1) hx hb dX3_bestToCure_0 (by decide) ?_
  refine lv_istore_n (lv' := [(1, .int ((-1))), (0, .ref q0)]) hx hb dX3_bestToCure_1 rfl hl (by decide) rfl (fun ls hl => ?_)
  refine lv_aload_n hx hb dX3_bestToCure_2 rfl (lv_at hl 1 rfl) ?_
  refine lv_iconst (v := -1) hx hb dX3_bestToCure_3 (by decide) ?_
  have hPc := hP.sub (ws' := [(q0, .inr (2, [.ref q1, .ref q2, .ref q3, .ref q4, .ref q5, .ref q6, .ref q7, .int (nI n), .int (nI h), .int (th), .int (tt)])), (q1, .inl (cI, 6, .inl (fk))), (q2, .inl (cI, 6, .inl (fs))), (q3, .inl (cI, 6, .inl (fn))), (q4, .inl (cZ, 6, .inl (fi))), (q5, .inl (cI, 8, .inl (fc))), (q6, .inl (cI, 8, .inl (fw))), (q7, .inl (cI, 8, .inl (ft)))]) [0, 1, 2, 3, 4, 5, 6, 7] rfl
  refine callRi (v := nI (ucF fk (cuF fs (-1)) n)) (W.runV (As := [.int ((-1))]) (rest := []) ⟨hx, hb, hml, hown, hts⟩ (k_X3_unchangedAtTop l dC dI cI cZ q0 q1 q2 q3 q4 q5 q6 q7 (fk) (fs) (fn) (fi) (fc) (fw) (ft) (n) (h) (th) (tt) ((-1)) (by first | omega | with_reducible assumption | (simp; omega)) (by first | omega | with_reducible assumption | (simp; omega))) (cwV 1 hts gX3_bestToCure_X3_unchangedAtTop rfl rfl rfl (by decide +kernel) ⟨Nat.le_of_ble_eq_true rfl, Nat.le_of_ble_eq_true rfl⟩) (preRV (q := (RX3, TX3, 11)) (ci := 2) hK hPc rfl rfl) rfl rfl hl.1 rfl (lv_room (Nat.le_of_ble_eq_true rfl)) dX3_bestToCure_4 ⟨Nat.zero_le _, Nat.zero_le _⟩) ?_
  rw [show (nI (ucF fk (cuF fs (-1)) n) : Int32) = nI (ucF fk fs n) from congrArg nI (ucF_no hn6)]
  refine lv_istore_n (lv' := [(2, .int (nI (ucF fk fs n))), (1, .int ((-1))), (0, .ref q0)]) hx hb dX3_bestToCure_7 rfl hl (by decide) rfl (fun ls hl => ?_)
  refine lv_iconst (v := nI 0) hx hb dX3_bestToCure_8 (by decide) ?_
  refine lv_istore_n (lv' := [(3, .int (nI 0)), (2, .int (nI (ucF fk fs n))), (1, .int ((-1))), (0, .ref q0)]) hx hb dX3_bestToCure_9 rfl hl (by decide) rfl (fun ls hl => ?_)
  have lp10 : ∀ (fuel : Nat) (k : Nat), n - k < fuel → (k ≤ n) → ∀ (ls : Array Slot), lv_has ls 5 [(0, .ref q0), (1, .int ((bcF (fun i => ucF fk (cuF fs (nI i)) n) (ucF fk fs n) k).1)), (2, .int (nI ((bcF (fun i => ucF fk (cuF fs (nI i)) n) (ucF fk fs n) k).2))), (3, .int (nI k))] → W p l e (headSpec wsX3_bestToCure ({ frames := 3, cells := 0, slots := 0, locals := 70 })).room s m ([.ref q0] : List Value).toArray below meth co s.heap [] 0 0 (MQ below (QRi ((bcF (fun i => ucF fk (cuF fs (nI i)) n) (ucF fk fs n) n).1)) ([.ref q0] : List Value).toArray s 0 0 noF) (F0 m 10 ls []) := by
    intro fuel
    induction fuel with
    | zero => intro k h0; exact absurd h0 (Nat.not_lt_zero _)
    | succ fuel ih10 =>
      intro k hm_2 hk ls hl
      refine lv_iload_n hx hb dX3_bestToCure_10 rfl (lv_at hl 3 rfl) ?_
      refine lv_aload_n hx hb dX3_bestToCure_11 rfl (lv_at hl 0 rfl) ?_
      refine va_get (D := (dC, dI)) (ci := 2) (v := .int (nI n)) (C := RX3) (T := TX3) (N := 11) hx hb hts inX3 hown hK hP 0 rfl rfl 7 (by decide) lf34 (fun _ h9 => h9) rfl dX3_bestToCure_12 ?_
      refine w_ci_ge (tgt := 42) hx hb (by omega) (by omega) dX3_bestToCure_15 (by decide) (fun c_3 => ?_) (fun c_3 => ?_)
      · skip
        refine lv_iload_n hx hb dX3_bestToCure_42 rfl (lv_at hl 1 rfl) ?_
        exact retRi hx hb hr hlocks (by rw [show k = n by omega]) dX3_bestToCure_43
      · skip
        refine lv_aload_n hx hb dX3_bestToCure_18 rfl (lv_at hl 0 rfl) ?_
        refine lv_iload_n hx hb dX3_bestToCure_19 rfl (lv_at hl 3 rfl) ?_
        have hPc := hP.sub (ws' := [(q0, .inr (2, [.ref q1, .ref q2, .ref q3, .ref q4, .ref q5, .ref q6, .ref q7, .int (nI n), .int (nI h), .int (th), .int (tt)])), (q1, .inl (cI, 6, .inl (fk))), (q2, .inl (cI, 6, .inl (fs))), (q3, .inl (cI, 6, .inl (fn))), (q4, .inl (cZ, 6, .inl (fi))), (q5, .inl (cI, 8, .inl (fc))), (q6, .inl (cI, 8, .inl (fw))), (q7, .inl (cI, 8, .inl (ft)))]) [0, 1, 2, 3, 4, 5, 6, 7] rfl
        refine callRi (v := nI (ucF fk (cuF fs (nI k)) n)) (W.runV (As := [.int (nI k)]) (rest := []) ⟨hx, hb, hml, hown, hts⟩ (k_X3_unchangedAtTop l dC dI cI cZ q0 q1 q2 q3 q4 q5 q6 q7 (fk) (fs) (fn) (fi) (fc) (fw) (ft) (n) (h) (th) (tt) (nI k) (by first | omega | with_reducible assumption | (simp; omega)) (by first | omega | with_reducible assumption | (simp; omega))) (cwV 1 hts gX3_bestToCure_X3_unchangedAtTop rfl rfl rfl (by decide +kernel) ⟨Nat.le_of_ble_eq_true rfl, Nat.le_of_ble_eq_true rfl⟩) (preRV (q := (RX3, TX3, 11)) (ci := 2) hK hPc rfl rfl) rfl rfl hl.1 rfl (lv_room (Nat.le_of_ble_eq_true rfl)) dX3_bestToCure_20 ⟨Nat.zero_le _, Nat.zero_le _⟩) ?_
        refine lv_istore (lv' := [(4, .int (nI (ucF fk (cuF fs (nI k)) n))), (0, .ref q0), (1, .int ((bcF (fun i => ucF fk (cuF fs (nI i)) n) (ucF fk fs n) k).1)), (2, .int (nI ((bcF (fun i => ucF fk (cuF fs (nI i)) n) (ucF fk fs n) k).2))), (3, .int (nI k))]) hx hb dX3_bestToCure_23 hl (by decide) rfl (fun ls hl => ?_)
        refine lv_iload hx hb dX3_bestToCure_25 (lv_at hl 0 rfl) ?_
        refine lv_iload_n hx hb dX3_bestToCure_27 rfl (lv_at hl 3 rfl) ?_
        have hu := ucF_le (fk := fk) (fs := cuF fs (nI k)) (n := n)
        have hv := bcF_le (n := n) (fk := fk) (fs := fs) (k := k)
        refine w_ci_le (tgt := 36) hx hb (by omega) (by omega) dX3_bestToCure_28 (by decide) (fun c_4 => ?_) (fun c_4 => ?_)
        · skip
          refine lv_iinc (v := nI (k + 1)) (lv' := [(3, .int (nI (k + 1))), (4, .int (nI (ucF fk (cuF fs (nI k)) n))), (0, .ref q0), (1, .int ((bcF (fun i => ucF fk (cuF fs (nI i)) n) (ucF fk fs n) k).1)), (2, .int (nI ((bcF (fun i => ucF fk (cuF fs (nI i)) n) (ucF fk fs n) k).2)))]) hx hb dX3_bestToCure_36 hl (k := 4) rfl w_inc1 (by decide) rfl (fun ls hl => ?_)
          refine lv_goto (tgt := 10) hx hb dX3_bestToCure_39 (by decide) ?_
          have he_5 : ((bcF (fun i => ucF fk (cuF fs (nI i)) n) (ucF fk fs n) k).1 : Int32) = (bcF (fun i => ucF fk (cuF fs (nI i)) n) (ucF fk fs n) (k + 1)).1 := by first | (simp [bcF, c_4]; done) | (simp [bcF, Nat.not_lt.mpr c_4]; done)
          have he_6 : (nI ((bcF (fun i => ucF fk (cuF fs (nI i)) n) (ucF fk fs n) k).2) : Int32) = nI ((bcF (fun i => ucF fk (cuF fs (nI i)) n) (ucF fk fs n) (k + 1)).2) := by first | (simp [bcF, c_4]; done) | (simp [bcF, Nat.not_lt.mpr c_4]; done)
          have hl := lv_cong hl (show ([(3, .int (nI (k + 1))), (4, .int (nI (ucF fk (cuF fs (nI k)) n))), (0, .ref q0), (1, .int ((bcF (fun i => ucF fk (cuF fs (nI i)) n) (ucF fk fs n) k).1)), (2, .int (nI ((bcF (fun i => ucF fk (cuF fs (nI i)) n) (ucF fk fs n) k).2)))] : List (Nat × Value)) = [(3, .int (nI ((k + 1)))), (4, .int (nI (ucF fk (cuF fs (nI k)) n))), (0, .ref q0), (1, .int ((bcF (fun i => ucF fk (cuF fs (nI i)) n) (ucF fk fs n) (k + 1)).1)), (2, .int (nI ((bcF (fun i => ucF fk (cuF fs (nI i)) n) (ucF fk fs n) (k + 1)).2)))] by rw [← he_5, ← he_6])
          exact ih10 (k + 1) (by omega) (by first | omega | with_reducible assumption | (first | with_reducible rfl | exact (if_pos (c_4)).symm | exact (if_neg (c_4)).symm | (simp [hn1, hn6, hk, c_3, c_4]; done) | omega | rfl)) ls (lv_sub hl [2, 3, 4, 0] rfl)
        · skip
          refine lv_iload hx hb dX3_bestToCure_31 (lv_at hl 0 rfl) ?_
          refine lv_istore_n (lv' := [(2, .int (nI (ucF fk (cuF fs (nI k)) n))), (4, .int (nI (ucF fk (cuF fs (nI k)) n))), (0, .ref q0), (1, .int ((bcF (fun i => ucF fk (cuF fs (nI i)) n) (ucF fk fs n) k).1)), (3, .int (nI k))]) hx hb dX3_bestToCure_33 rfl hl (by decide) rfl (fun ls hl => ?_)
          refine lv_iload_n hx hb dX3_bestToCure_34 rfl (lv_at hl 4 rfl) ?_
          refine lv_istore_n (lv' := [(1, .int (nI k)), (2, .int (nI (ucF fk (cuF fs (nI k)) n))), (4, .int (nI (ucF fk (cuF fs (nI k)) n))), (0, .ref q0), (3, .int (nI k))]) hx hb dX3_bestToCure_35 rfl hl (by decide) rfl (fun ls hl => ?_)
          refine lv_iinc (v := nI (k + 1)) (lv' := [(3, .int (nI (k + 1))), (1, .int (nI k)), (2, .int (nI (ucF fk (cuF fs (nI k)) n))), (4, .int (nI (ucF fk (cuF fs (nI k)) n))), (0, .ref q0)]) hx hb dX3_bestToCure_36 hl (k := 4) rfl w_inc1 (by decide) rfl (fun ls hl => ?_)
          refine lv_goto (tgt := 10) hx hb dX3_bestToCure_39 (by decide) ?_
          have he_7 : (nI k : Int32) = (bcF (fun i => ucF fk (cuF fs (nI i)) n) (ucF fk fs n) (k + 1)).1 := by first | (simp [bcF, c_4]; done) | (simp [bcF, Nat.not_lt.mpr c_4]; done)
          have he_8 : (nI (ucF fk (cuF fs (nI k)) n) : Int32) = nI ((bcF (fun i => ucF fk (cuF fs (nI i)) n) (ucF fk fs n) (k + 1)).2) := by first | (simp [bcF, c_4]; done) | (simp [bcF, Nat.not_lt.mpr c_4]; done)
          have hl := lv_cong hl (show ([(3, .int (nI (k + 1))), (1, .int (nI k)), (2, .int (nI (ucF fk (cuF fs (nI k)) n))), (4, .int (nI (ucF fk (cuF fs (nI k)) n))), (0, .ref q0)] : List (Nat × Value)) = [(3, .int (nI ((k + 1)))), (1, .int ((bcF (fun i => ucF fk (cuF fs (nI i)) n) (ucF fk fs n) (k + 1)).1)), (2, .int (nI ((bcF (fun i => ucF fk (cuF fs (nI i)) n) (ucF fk fs n) (k + 1)).2))), (4, .int (nI (ucF fk (cuF fs (nI k)) n))), (0, .ref q0)] by rw [← he_7, ← he_8])
          exact ih10 (k + 1) (by omega) (by first | omega | with_reducible assumption | (first | with_reducible rfl | exact (if_pos (c_4)).symm | exact (if_neg (c_4)).symm | (simp [hn1, hn6, hk, c_3, c_4]; done) | omega | rfl)) ls (lv_sub hl [4, 1, 2, 0] rfl)
  have he_9 : ((-1) : Int32) = (bcF (fun i => ucF fk (cuF fs (nI i)) n) (ucF fk fs n) 0).1 := by rfl
  have he_10 : (nI (ucF fk fs n) : Int32) = nI ((bcF (fun i => ucF fk (cuF fs (nI i)) n) (ucF fk fs n) 0).2) := by rfl
  have hl := lv_cong hl (show ([(3, .int (nI 0)), (2, .int (nI (ucF fk fs n))), (1, .int ((-1))), (0, .ref q0)] : List (Nat × Value)) = [(3, .int (nI 0)), (2, .int (nI ((bcF (fun i => ucF fk (cuF fs (nI i)) n) (ucF fk fs n) 0).2))), (1, .int ((bcF (fun i => ucF fk (cuF fs (nI i)) n) (ucF fk fs n) 0).1)), (0, .ref q0)] by rw [← he_9, ← he_10])
  exact lp10 (n - 0 + 1) (0) (Nat.lt_succ_self _) (by first | omega | with_reducible assumption | (first | with_reducible rfl | exact (if_pos (hn6)).symm | exact (if_neg (hn6)).symm | (simp [hn1, hn6]; done) | omega | rfl)) ls (lv_sub hl [3, 2, 1, 0] rfl)
