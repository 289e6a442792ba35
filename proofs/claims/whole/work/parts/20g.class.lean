set_option maxHeartbeats 4000000 in
set_option maxRecDepth 100000 in
theorem k_X4_letter (l : Launch) (dC : Nat → ClassId) (dI : Nat → Nat → Nat) (cI cZ : ClassId) (t0 g0 q0 kq0 tq0 w0 g1 : Nat) (sz : Nat) (pg : Nat → Int32) (pn : Nat) (sr : Int32) (cd : Int32) (hp : pn ≤ 20) : Met l yX4_letter wsX4_letter ({ frames := 2, cells := 0, slots := 0, locals := 41 }) (va_Pc [.ref t0, .int (cd)] (PW (dC, dI) cI cZ sz [(t0, .inr (3, [.ref g0, .ref q0, .ref kq0, .ref tq0, .ref w0, .int (sr)])), (g0, .inr (1, [.ref g1, .int (nI pn)])), (g1, .inl (cI, 20, .inl (pg)))])) (QWi (dC, dI) ((letA pn cd)) [(t0, .inr (3, [.ref g0, .ref q0, .ref kq0, .ref tq0, .ref w0, .int (sr)])), (g0, .inr (1, [.ref g1, .int (nI pn)])), (g1, .inl (cI, 20, .inl (pg)))] [(t0, .inr (3, [.ref g0, .ref q0, .ref kq0, .ref tq0, .ref w0, .int (sr)])), (g0, .inr (1, [.ref g1, .int (nI ((letN pn cd)))])), (g1, .inl (cI, 20, .inl ((letG pn cd pg))))] sz) 0 0 (va_A [(t0, .inr (3, [.ref g0, .ref q0, .ref kq0, .ref tq0, .ref w0, .int (sr)])), (g0, .inr (1, [.ref g1, .int (nI pn)])), (g1, .inl (cI, 20, .inl (pg)))] sz) := by
  refine Met.ofW (cc := cX4_letter) (maxL := 2) (ret := (some .int)) (by decide) rfl ?_
  intro p e s m args below meth co s₁ B hml hv
  obtain ⟨rfl, hsz, hP, hK, hD0⟩ := hv
  have hx := B.exec
  have hb := B.bytes
  have hr := B.returns
  have hts := atoms_spec (ws := wsX4_letter) B.pre
  have hown : s.vm.findClass RX4 = some m.cls := findClass_of_methodNamed B.named
  have hlocks := B.notSynchronized
  subst hsz
  have hD := hD0.self (sz := s.heap.size)
  generalize hAe : va_A [(t0, .inr (3, [.ref g0, .ref q0, .ref kq0, .ref tq0, .ref w0, .int (sr)])), (g0, .inr (1, [.ref g1, .int (nI pn)])), (g1, .inl (cI, 20, .inl (pg)))] s.heap.size = A at hD
  have hA : ∀ q : Nat, s.heap.size ≤ q → A q := fun q h => by rw [← hAe]; exact Or.inr h
  have hS : va_S A s.heap s.heap [] := va_S.rf
  have inX2 : ∀ w ∈ u_ws RX2 TX2 2, w ∈ wsX4_letter := by decide +kernel
  have inX4 : ∀ w ∈ u_ws RX4 TX4 6, w ∈ wsX4_letter := by decide +kernel
  have lf10 := hts (.fieldLink RX4 10 "ThursdayRungs" "page" "LThursdayRungs$Page;") (by decide +kernel)
  have lf48 := hts (.fieldLink RX4 48 "ThursdayRungs$Page" "size" "I") (by decide +kernel)
  have hl := lv_entry ([.ref t0, .int (cd)]) (n := 2) (Nat.le_of_ble_eq_true rfl)
  rw [lg_entry_eq]
  generalize (lg_sl ([.ref t0, .int (cd)]) ++ List.replicate (2 - (lg_sl ([.ref t0, .int (cd)])).length) Slot.unset).toArray = ls at hl ⊢
  have hl : lv_has ls 2 [(0, .ref t0), (1, .int (cd))] := hl
  have hP : va_P (dC, dI) vwCl [(t0, .inr (3, [.ref g0, .ref q0, .ref kq0, .ref tq0, .ref w0, .int (sr)])), (g0, .inr (1, [.ref g1, .int (nI pn)])), (g1, .inl (cI, 20, .inl (pg)))] s.heap := hP
  refine lv_iload_n hx hb dX4_letter_0 rfl (lv_at hl 1 rfl) ?_
  refine lv_iconst (v := nI 1) hx hb dX4_letter_1 (by decide) ?_
  refine lv_icmp_lt (tgt := 11) hx hb dX4_letter_2 (by decide) (fun c_1 => ?_) (fun c_1 => ?_)
  · skip
    refine lv_bipush (v := -102) hx hb dX4_letter_11 (by decide) ?_
    have hP7 := hP.sub (ws' := [(t0, .inr (3, [.ref g0, .ref q0, .ref kq0, .ref tq0, .ref w0, .int (sr)])), (g0, .inr (1, [.ref g1, .int (nI pn)])), (g1, .inl (cI, 20, .inl (pg)))]) [0, 1, 2] rfl
    have hD7 := hD.sub (ws' := [(t0, .inr (3, [.ref g0, .ref q0, .ref kq0, .ref tq0, .ref w0, .int (sr)])), (g0, .inr (1, [.ref g1, .int (nI pn)])), (g1, .inl (cI, 20, .inl (pg)))]) [0, 1, 2] (by decide) rfl
    have he_2 : (nI pn : Int32) = nI ((letN pn cd)) := by exact letN_o (by first | exact Or.inl c_1 | exact Or.inr c_1)
    have he_3 : (pg : Nat → Int32) = (letG pn cd pg) := by exact letG_o (by first | exact Or.inl c_1 | exact Or.inr c_1)
    have heq : ([(t0, .inr (3, [.ref g0, .ref q0, .ref kq0, .ref tq0, .ref w0, .int (sr)])), (g0, .inr (1, [.ref g1, .int (nI pn)])), (g1, .inl (cI, 20, .inl (pg)))] : va_W) = [(t0, .inr (3, [.ref g0, .ref q0, .ref kq0, .ref tq0, .ref w0, .int (sr)])), (g0, .inr (1, [.ref g1, .int (nI ((letN pn cd)))])), (g1, .inl (cI, 20, .inl ((letG pn cd pg))))] := by rw [← he_2, ← he_3]
    have hP7 := w_Pc hP7 heq
    have hD7 := w_Dc hD7 heq
    exact retWi hx hb hr hlocks (by exact letA_o (by first | exact Or.inl c_1 | exact Or.inr c_1)) hP7 hD7 hS hAe dX4_letter_13
  · skip
    refine lv_iload_n hx hb dX4_letter_5 rfl (lv_at hl 1 rfl) ?_
    refine lv_bipush (v := nI 126) hx hb dX4_letter_6 (by decide) ?_
    refine lv_icmp_le (tgt := 14) hx hb dX4_letter_8 (by decide) (fun c_4 => ?_) (fun c_4 => ?_)
    · skip
      refine lv_aload_n hx hb dX4_letter_14 rfl (lv_at hl 0 rfl) ?_
      refine va_get (D := (dC, dI)) (ci := 3) (v := .ref g0) (C := RX4) (T := TX4) (N := 6) hx hb hts inX4 hown hK hP 0 rfl rfl 0 (by decide) lf10 (fun _ h9 => h9) rfl dX4_letter_15 ?_
      have hPc := hP.sub (ws' := [(g0, .inr (1, [.ref g1, .int (nI pn)])), (g1, .inl (cI, 20, .inl (pg)))]) [1, 2] rfl
      refine callRi (v := (if (20 ≤ pn) then nI 1 else nI 0)) (W.runV (As := []) (rest := []) ⟨hx, hb, hml, hown, hts⟩ (k_X2_isFull l dC dI cI cZ g0 g1 (pg) (pn) (by first | omega | with_reducible assumption | (simp; omega))) (cwV 0 hts gX4_letter_X2_isFull rfl rfl rfl (by decide +kernel) ⟨Nat.le_of_ble_eq_true rfl, Nat.le_of_ble_eq_true rfl⟩) (preRV (q := (RX2, TX2, 2)) (ci := 1) hK hPc rfl rfl) rfl rfl hl.1 rfl (lv_room (Nat.le_of_ble_eq_true rfl)) dX4_letter_18 ⟨Nat.zero_le _, Nat.zero_le _⟩) ?_
      refine w_ifeqB (tgt := 27) hx hb dX4_letter_21 (by decide) (fun c_5 => ?_) (fun c_5 => ?_)
      · skip
        refine lv_aload_n hx hb dX4_letter_27 rfl (lv_at hl 0 rfl) ?_
        refine va_get (D := (dC, dI)) (ci := 3) (v := .ref g0) (C := RX4) (T := TX4) (N := 6) hx hb hts inX4 hown hK hP 0 rfl rfl 0 (by decide) lf10 (fun _ h9 => h9) rfl dX4_letter_28 ?_
        refine lv_iload_n hx hb dX4_letter_31 rfl (lv_at hl 1 rfl) ?_
        have hPc := hP.sub (ws' := [(g0, .inr (1, [.ref g1, .int (nI pn)])), (g1, .inl (cI, 20, .inl (pg)))]) [1, 2] rfl
        have hDc := hD.sub (ws' := [(g0, .inr (1, [.ref g1, .int (nI pn)])), (g1, .inl (cI, 20, .inl (pg)))]) [1, 2] (by decide) rfl
        refine callWv (wr := [(t0, .inr (3, [.ref g0, .ref q0, .ref kq0, .ref tq0, .ref w0, .int (sr)]))]) (w1 := [(g0, .inr (1, [.ref g1, .int (nI (pn + 1))])), (g1, .inl (cI, 20, .inl (upd pg pn cd)))]) (va_runV (As := [.int (cd)]) (rest := []) ⟨hx, hb, hml, hown, hts⟩ (k_X2_add l dC dI cI cZ g0 g1 _ (pg) (pn) (cd) (by first | omega | with_reducible assumption | (simp; omega))) (cwV 1 hts gX4_letter_X2_add rfl rfl rfl (by decide +kernel) ⟨Nat.le_of_ble_eq_true rfl, Nat.le_of_ble_eq_true rfl⟩) (preWV (q := (RX2, TX2, 2)) (ci := 1) hK hPc hDc rfl rfl) rfl rfl hl.1 rfl (lv_room (Nat.le_of_ble_eq_true rfl)) dX4_letter_32 ⟨Nat.zero_le _, Nat.zero_le _⟩) hP hD hS hA [1, 2] [0] rfl rfl (by decide) (by decide) (fun H locs hP hD hS => ?_)
        have hP : va_P (dC, dI) vwCl [(t0, .inr (3, [.ref g0, .ref q0, .ref kq0, .ref tq0, .ref w0, .int (sr)])), (g0, .inr (1, [.ref g1, .int (nI (pn + 1))])), (g1, .inl (cI, 20, .inl (upd pg pn cd)))] H := hP
        have hD : va_D A [(t0, .inr (3, [.ref g0, .ref q0, .ref kq0, .ref tq0, .ref w0, .int (sr)])), (g0, .inr (1, [.ref g1, .int (nI (pn + 1))])), (g1, .inl (cI, 20, .inl (upd pg pn cd)))] := hD
        refine lv_aload_n hx hb dX4_letter_35 rfl (lv_at hl 0 rfl) ?_
        refine va_get (D := (dC, dI)) (ci := 3) (v := .ref g0) (C := RX4) (T := TX4) (N := 6) hx hb hts inX4 hown hK hP 0 rfl rfl 0 (by decide) lf10 (fun _ h9 => h9) rfl dX4_letter_36 ?_
        refine va_get (D := (dC, dI)) (ci := 1) (v := .int (nI (pn + 1))) (C := RX2) (T := TX2) (N := 2) hx hb hts inX2 hown hK hP 1 rfl rfl 1 (by decide) lf48 (fun _ h9 => h9) rfl dX4_letter_39 ?_
        have hP7 := hP.sub (ws' := [(t0, .inr (3, [.ref g0, .ref q0, .ref kq0, .ref tq0, .ref w0, .int (sr)])), (g0, .inr (1, [.ref g1, .int (nI (pn + 1))])), (g1, .inl (cI, 20, .inl (upd pg pn cd)))]) [0, 1, 2] rfl
        have hD7 := hD.sub (ws' := [(t0, .inr (3, [.ref g0, .ref q0, .ref kq0, .ref tq0, .ref w0, .int (sr)])), (g0, .inr (1, [.ref g1, .int (nI (pn + 1))])), (g1, .inl (cI, 20, .inl (upd pg pn cd)))]) [0, 1, 2] (by decide) rfl
        have he_6 : (nI (pn + 1) : Int32) = nI ((letN pn cd)) := by exact letN_y (by assumption) (by assumption) c_5
        have he_7 : (upd pg pn cd : Nat → Int32) = (letG pn cd pg) := by exact letG_y (by assumption) (by assumption) c_5
        have heq : ([(t0, .inr (3, [.ref g0, .ref q0, .ref kq0, .ref tq0, .ref w0, .int (sr)])), (g0, .inr (1, [.ref g1, .int (nI (pn + 1))])), (g1, .inl (cI, 20, .inl (upd pg pn cd)))] : va_W) = [(t0, .inr (3, [.ref g0, .ref q0, .ref kq0, .ref tq0, .ref w0, .int (sr)])), (g0, .inr (1, [.ref g1, .int (nI ((letN pn cd)))])), (g1, .inl (cI, 20, .inl ((letG pn cd pg))))] := by rw [← he_6, ← he_7]
        have hP7 := w_Pc hP7 heq
        have hD7 := w_Dc hD7 heq
        exact retWi hx hb hr hlocks (by exact letA_y (by assumption) (by assumption) c_5) hP7 hD7 hS hAe dX4_letter_42
      · skip
        refine lv_bipush (v := -104) hx hb dX4_letter_24 (by decide) ?_
        have hP7 := hP.sub (ws' := [(t0, .inr (3, [.ref g0, .ref q0, .ref kq0, .ref tq0, .ref w0, .int (sr)])), (g0, .inr (1, [.ref g1, .int (nI pn)])), (g1, .inl (cI, 20, .inl (pg)))]) [0, 1, 2] rfl
        have hD7 := hD.sub (ws' := [(t0, .inr (3, [.ref g0, .ref q0, .ref kq0, .ref tq0, .ref w0, .int (sr)])), (g0, .inr (1, [.ref g1, .int (nI pn)])), (g1, .inl (cI, 20, .inl (pg)))]) [0, 1, 2] (by decide) rfl
        have he_8 : (nI pn : Int32) = nI ((letN pn cd)) := by exact letN_f c_5
        have he_9 : (pg : Nat → Int32) = (letG pn cd pg) := by exact letG_f c_5
        have heq : ([(t0, .inr (3, [.ref g0, .ref q0, .ref kq0, .ref tq0, .ref w0, .int (sr)])), (g0, .inr (1, [.ref g1, .int (nI pn)])), (g1, .inl (cI, 20, .inl (pg)))] : va_W) = [(t0, .inr (3, [.ref g0, .ref q0, .ref kq0, .ref tq0, .ref w0, .int (sr)])), (g0, .inr (1, [.ref g1, .int (nI ((letN pn cd)))])), (g1, .inl (cI, 20, .inl ((letG pn cd pg))))] := by rw [← he_8, ← he_9]
        have hP7 := w_Pc hP7 heq
        have hD7 := w_Dc hD7 heq
        exact retWi hx hb hr hlocks (by exact letA_f (by assumption) (by assumption) c_5) hP7 hD7 hS hAe dX4_letter_26
    · skip
      refine lv_bipush (v := -102) hx hb dX4_letter_11 (by decide) ?_
      have hP7 := hP.sub (ws' := [(t0, .inr (3, [.ref g0, .ref q0, .ref kq0, .ref tq0, .ref w0, .int (sr)])), (g0, .inr (1, [.ref g1, .int (nI pn)])), (g1, .inl (cI, 20, .inl (pg)))]) [0, 1, 2] rfl
      have hD7 := hD.sub (ws' := [(t0, .inr (3, [.ref g0, .ref q0, .ref kq0, .ref tq0, .ref w0, .int (sr)])), (g0, .inr (1, [.ref g1, .int (nI pn)])), (g1, .inl (cI, 20, .inl (pg)))]) [0, 1, 2] (by decide) rfl
      have he_10 : (nI pn : Int32) = nI ((letN pn cd)) := by exact letN_o (by first | exact Or.inl c_4 | exact Or.inr c_4)
      have he_11 : (pg : Nat → Int32) = (letG pn cd pg) := by exact letG_o (by first | exact Or.inl c_4 | exact Or.inr c_4)
      have heq : ([(t0, .inr (3, [.ref g0, .ref q0, .ref kq0, .ref tq0, .ref w0, .int (sr)])), (g0, .inr (1, [.ref g1, .int (nI pn)])), (g1, .inl (cI, 20, .inl (pg)))] : va_W) = [(t0, .inr (3, [.ref g0, .ref q0, .ref kq0, .ref tq0, .ref w0, .int (sr)])), (g0, .inr (1, [.ref g1, .int (nI ((letN pn cd)))])), (g1, .inl (cI, 20, .inl ((letG pn cd pg))))] := by rw [← he_10, ← he_11]
      have hP7 := w_Pc hP7 heq
      have hD7 := w_Dc hD7 heq
      exact retWi hx hb hr hlocks (by exact letA_o (by first | exact Or.inl c_4 | exact Or.inr c_4)) hP7 hD7 hS hAe dX4_letter_13
set_option maxHeartbeats 4000000 in
set_option maxRecDepth 100000 in
theorem k_X4_blank (l : Launch) (dC : Nat → ClassId) (dI : Nat → Nat → Nat) (cI cZ : ClassId) (t0 g0 q0 kq0 tq0 w0 g1 : Nat) (sz : Nat) (pg : Nat → Int32) (pn : Nat) (sr : Int32) : Met l yX4_blank wsX4_blank ({ frames := 0, cells := 0, slots := 0, locals := 0 }) (va_Pc [.ref t0] (PW (dC, dI) cI cZ sz [(t0, .inr (3, [.ref g0, .ref q0, .ref kq0, .ref tq0, .ref w0, .int (sr)])), (g0, .inr (1, [.ref g1, .int (nI pn)])), (g1, .inl (cI, 20, .inl (pg)))])) (QWi (dC, dI) (nI pn) [(t0, .inr (3, [.ref g0, .ref q0, .ref kq0, .ref tq0, .ref w0, .int (sr)])), (g0, .inr (1, [.ref g1, .int (nI pn)])), (g1, .inl (cI, 20, .inl (pg)))] [(t0, .inr (3, [.ref g0, .ref q0, .ref kq0, .ref tq0, .ref w0, .int (sr)])), (g0, .inr (1, [.ref g1, .int (nI 0)])), (g1, .inl (cI, 20, .inl (pg)))] sz) 0 0 (va_A [(t0, .inr (3, [.ref g0, .ref q0, .ref kq0, .ref tq0, .ref w0, .int (sr)])), (g0, .inr (1, [.ref g1, .int (nI pn)])), (g1, .inl (cI, 20, .inl (pg)))] sz) := by
  refine Met.ofW (cc := cX4_blank) (maxL := 2) (ret := (some .int)) (by decide) rfl ?_
  intro p e s m args below meth co s₁ B hml hv
  obtain ⟨rfl, hsz, hP, hK, hD0⟩ := hv
  have hx := B.exec
  have hb := B.bytes
  have hr := B.returns
  have hts := atoms_spec (ws := wsX4_blank) B.pre
  have hown : s.vm.findClass RX4 = some m.cls := findClass_of_methodNamed B.named
  have hlocks := B.notSynchronized
  subst hsz
  have hD := hD0.self (sz := s.heap.size)
  generalize hAe : va_A [(t0, .inr (3, [.ref g0, .ref q0, .ref kq0, .ref tq0, .ref w0, .int (sr)])), (g0, .inr (1, [.ref g1, .int (nI pn)])), (g1, .inl (cI, 20, .inl (pg)))] s.heap.size = A at hD
  have hA : ∀ q : Nat, s.heap.size ≤ q → A q := fun q h => by rw [← hAe]; exact Or.inr h
  have hS : va_S A s.heap s.heap [] := va_S.rf
  have inX2 : ∀ w ∈ u_ws RX2 TX2 2, w ∈ wsX4_blank := by decide +kernel
  have inX4 : ∀ w ∈ u_ws RX4 TX4 6, w ∈ wsX4_blank := by decide +kernel
  have lf10 := hts (.fieldLink RX4 10 "ThursdayRungs" "page" "LThursdayRungs$Page;") (by decide +kernel)
  have lf48 := hts (.fieldLink RX4 48 "ThursdayRungs$Page" "size" "I") (by decide +kernel)
  have hl := lv_entry ([.ref t0]) (n := 2) (Nat.le_of_ble_eq_true rfl)
  rw [lg_entry_eq]
  generalize (lg_sl ([.ref t0]) ++ List.replicate (2 - (lg_sl ([.ref t0])).length) Slot.unset).toArray = ls at hl ⊢
  have hl : lv_has ls 2 [(0, .ref t0)] := hl
  have hP : va_P (dC, dI) vwCl [(t0, .inr (3, [.ref g0, .ref q0, .ref kq0, .ref tq0, .ref w0, .int (sr)])), (g0, .inr (1, [.ref g1, .int (nI pn)])), (g1, .inl (cI, 20, .inl (pg)))] s.heap := hP
  refine lv_aload_n hx hb dX4_blank_0 rfl (lv_at hl 0 rfl) ?_
  refine va_get (D := (dC, dI)) (ci := 3) (v := .ref g0) (C := RX4) (T := TX4) (N := 6) hx hb hts inX4 hown hK hP 0 rfl rfl 0 (by decide) lf10 (fun _ h9 => h9) rfl dX4_blank_1 ?_
  refine va_get (D := (dC, dI)) (ci := 1) (v := .int (nI pn)) (C := RX2) (T := TX2) (N := 2) hx hb hts inX2 hown hK hP 1 rfl rfl 1 (by decide) lf48 (fun _ h9 => h9) rfl dX4_blank_4 ?_
  refine lv_istore_n (lv' := [(1, .int (nI pn)), (0, .ref t0)]) hx hb dX4_blank_7 rfl hl (by decide) rfl (fun ls hl => ?_)
  refine lv_aload_n hx hb dX4_blank_8 rfl (lv_at hl 1 rfl) ?_
  refine va_get (D := (dC, dI)) (ci := 3) (v := .ref g0) (C := RX4) (T := TX4) (N := 6) hx hb hts inX4 hown hK hP 0 rfl rfl 0 (by decide) lf10 (fun _ h9 => h9) rfl dX4_blank_9 ?_
  refine lv_iconst (v := nI 0) hx hb dX4_blank_12 (by decide) ?_
  refine va_put (D := (dC, dI)) (ci := 1) (v := .int (nI 0)) (ty := .int) (C := RX2) (T := TX2) (N := 2) hx hb hts inX2 tyX2 tyX2_ok nmX2 hown hK hP hD hS 1 rfl rfl 1 (by decide) lf48 (fun _ h9 => h9) rfl (by decide +kernel) rfl rfl (Nat.le_of_ble_eq_true rfl) dX4_blank_13 (fun H locs hP hD hS => ?_)
  have hP : va_P (dC, dI) vwCl [(t0, .inr (3, [.ref g0, .ref q0, .ref kq0, .ref tq0, .ref w0, .int (sr)])), (g0, .inr (1, [.ref g1, .int (nI 0)])), (g1, .inl (cI, 20, .inl (pg)))] H := hP
  have hD : va_D A [(t0, .inr (3, [.ref g0, .ref q0, .ref kq0, .ref tq0, .ref w0, .int (sr)])), (g0, .inr (1, [.ref g1, .int (nI 0)])), (g1, .inl (cI, 20, .inl (pg)))] := hD
  refine lv_iload_n hx hb dX4_blank_16 rfl (lv_at hl 0 rfl) ?_
  have hP7 := hP.sub (ws' := [(t0, .inr (3, [.ref g0, .ref q0, .ref kq0, .ref tq0, .ref w0, .int (sr)])), (g0, .inr (1, [.ref g1, .int (nI 0)])), (g1, .inl (cI, 20, .inl (pg)))]) [0, 1, 2] rfl
  have hD7 := hD.sub (ws' := [(t0, .inr (3, [.ref g0, .ref q0, .ref kq0, .ref tq0, .ref w0, .int (sr)])), (g0, .inr (1, [.ref g1, .int (nI 0)])), (g1, .inl (cI, 20, .inl (pg)))]) [0, 1, 2] (by decide) rfl
  exact retWi hx hb hr hlocks rfl hP7 hD7 hS hAe dX4_blank_17
