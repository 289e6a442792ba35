set_option maxHeartbeats 1000000 in
set_option maxRecDepth 100000 in
theorem k_J0_coder_7d493 (l : Launch) (dC : Nat → ClassId) (dI : Nat → Nat → Nat) (cI cZ : ClassId) (ak av : Nat → Nat) : Met l yJ0_coder_7d493 wsJ0_coder_7d493 ({ frames := 0, cells := 0, slots := 0, locals := 0 }) (va_Pc [.ref (ak 0)] (PJ ak av)) (QRi (nI 0)) 0 0 noF := by
  refine Met.ofW (cc := cJ0_coder_7d493) (maxL := 1) (ret := (some .byte)) (by decide) rfl ?_
  intro p e s m args below meth co s₁ B hml hv
  obtain ⟨rfl, hE, hZ⟩ := hv
  have hS : va_S noF s.heap s.heap [] := va_S.rf
  have hx := B.exec
  have hb := B.bytes
  have hr := B.returns
  have hts := atoms_spec (ws := wsJ0_coder_7d493) B.pre
  have hown : s.vm.findClass RJ0 = some m.cls := findClass_of_methodNamed B.named
  have hlocks := B.notSynchronized
  have lf15 := hts (.fieldLink RJ0 15 "java/lang/String" "coder" "B") (by decide +kernel)
  have lf38 := hts (.fieldLink RJ0 38 "java/lang/String" "COMPACT_STRINGS" "Z") (by decide +kernel)
  have hl := lv_entry ([.ref (ak 0)]) (n := 1) (Nat.le_of_ble_eq_true rfl)
  rw [lg_entry_eq]
  generalize (lg_sl ([.ref (ak 0)]) ++ List.replicate (1 - (lg_sl ([.ref (ak 0)])).length) Slot.unset).toArray = ls at hl ⊢
  have hl : lv_has ls 1 [(0, .ref (ak 0))] := hl
  refine va_gets hx hb hZ hS hown lf38 (fun _ h9 => h9) dJ0_coder_7d493_0 ?_
  refine w_ifeqN (tgt := 13) hx hb (by omega) dJ0_coder_7d493_3 (by decide) (fun c_1 => ?_) (fun c_1 => ?_)
  · skip
    first | exact absurd c_1 (by decide) | exact (c_1 : False).elim | omega
  · skip
    refine lv_aload_n hx hb dJ0_coder_7d493_6 rfl (lv_at hl 0 rfl) ?_
    refine vk_getf hx hb (xE.co hE) hS hown lf15 (fun _ h9 => h9) dJ0_coder_7d493_7 ?_
    refine lv_goto (tgt := 14) hx hb dJ0_coder_7d493_10 (by decide) ?_
    exact retRz hx hb hr hlocks rfl rfl dJ0_coder_7d493_14
set_option maxHeartbeats 1000000 in
set_option maxRecDepth 100000 in
theorem k_J0_isLatin1_aae02 (l : Launch) (dC : Nat → ClassId) (dI : Nat → Nat → Nat) (cI cZ : ClassId) (ak av : Nat → Nat) : Met l yJ0_isLatin1_aae02 wsJ0_isLatin1_aae02 ({ frames := 0, cells := 0, slots := 0, locals := 0 }) (va_Pc [.ref (ak 0)] (PJ ak av)) (QRi (nI 1)) 0 0 noF := by
  refine Met.ofW (cc := cJ0_isLatin1_aae02) (maxL := 1) (ret := (some .boolean)) (by decide) rfl ?_
  intro p e s m args below meth co s₁ B hml hv
  obtain ⟨rfl, hE, hZ⟩ := hv
  have hS : va_S noF s.heap s.heap [] := va_S.rf
  have hx := B.exec
  have hb := B.bytes
  have hr := B.returns
  have hts := atoms_spec (ws := wsJ0_isLatin1_aae02) B.pre
  have hown : s.vm.findClass RJ0 = some m.cls := findClass_of_methodNamed B.named
  have hlocks := B.notSynchronized
  have lf15 := hts (.fieldLink RJ0 15 "java/lang/String" "coder" "B") (by decide +kernel)
  have lf38 := hts (.fieldLink RJ0 38 "java/lang/String" "COMPACT_STRINGS" "Z") (by decide +kernel)
  have hl := lv_entry ([.ref (ak 0)]) (n := 1) (Nat.le_of_ble_eq_true rfl)
  rw [lg_entry_eq]
  generalize (lg_sl ([.ref (ak 0)]) ++ List.replicate (1 - (lg_sl ([.ref (ak 0)])).length) Slot.unset).toArray = ls at hl ⊢
  have hl : lv_has ls 1 [(0, .ref (ak 0))] := hl
  refine va_gets hx hb hZ hS hown lf38 (fun _ h9 => h9) dJ0_isLatin1_aae02_0 ?_
  refine w_ifeqN (tgt := 17) hx hb (by omega) dJ0_isLatin1_aae02_3 (by decide) (fun c_1 => ?_) (fun c_1 => ?_)
  · skip
    first | exact absurd c_1 (by decide) | exact (c_1 : False).elim | omega
  · skip
    refine lv_aload_n hx hb dJ0_isLatin1_aae02_6 rfl (lv_at hl 0 rfl) ?_
    refine vk_getf hx hb (xE.co hE) hS hown lf15 (fun _ h9 => h9) dJ0_isLatin1_aae02_7 ?_
    refine w_ifneN (tgt := 17) hx hb (by omega) dJ0_isLatin1_aae02_10 (by decide) (fun c_2 => ?_) (fun c_2 => ?_)
    · skip
      first | exact absurd c_2 (by decide) | exact (c_2 : False).elim | omega
    · skip
      refine lv_iconst (v := nI 1) hx hb dJ0_isLatin1_aae02_13 (by decide) ?_
      refine lv_goto (tgt := 18) hx hb dJ0_isLatin1_aae02_14 (by decide) ?_
      exact retRz hx hb hr hlocks rfl rfl dJ0_isLatin1_aae02_18
set_option maxHeartbeats 1000000 in
set_option maxRecDepth 100000 in
theorem k_J0_length_8abf5 (l : Launch) (dC : Nat → ClassId) (dI : Nat → Nat → Nat) (cI cZ : ClassId) (ak av : Nat → Nat) : Met l yJ0_length_8abf5 wsJ0_length_8abf5 ({ frames := 1, cells := 0, slots := 0, locals := 20 }) (va_Pc [.ref (ak 0)] (PJ ak av)) (QRi (nI 5)) 0 0 noF := by
  refine Met.ofW (cc := cJ0_length_8abf5) (maxL := 1) (ret := (some .int)) (by decide) rfl ?_
  intro p e s m args below meth co s₁ B hml hv
  obtain ⟨rfl, hE, hZ⟩ := hv
  have hS : va_S noF s.heap s.heap [] := va_S.rf
  have hx := B.exec
  have hb := B.bytes
  have hr := B.returns
  have hts := atoms_spec (ws := wsJ0_length_8abf5) B.pre
  have hown : s.vm.findClass RJ0 = some m.cls := findClass_of_methodNamed B.named
  have hlocks := B.notSynchronized
  have lf9 := hts (.fieldLink RJ0 9 "java/lang/String" "value" "[B") (by decide +kernel)
  have hl := lv_entry ([.ref (ak 0)]) (n := 1) (Nat.le_of_ble_eq_true rfl)
  rw [lg_entry_eq]
  generalize (lg_sl ([.ref (ak 0)]) ++ List.replicate (1 - (lg_sl ([.ref (ak 0)])).length) Slot.unset).toArray = ls at hl ⊢
  have hl : lv_has ls 1 [(0, .ref (ak 0))] := hl
  refine lv_aload_n hx hb dJ0_length_8abf5_0 rfl (lv_at hl 0 rfl) ?_
  refine vk_getf hx hb (xE.va hE) hS hown lf9 (fun _ h9 => h9) dJ0_length_8abf5_1 ?_
  refine va_tlen (v := nI 5) hx hb (xE.by hE) hS rfl dJ0_length_8abf5_4 ?_
  refine lv_aload_n hx hb dJ0_length_8abf5_5 rfl (lv_at hl 0 rfl) ?_
  refine callRi (v := nI 0) (W.runV (As := []) (rest := [.int (nI 5)]) ⟨hx, hb, hml, hown, hts⟩ (k_J0_coder_7d493 l dC dI cI cZ ak av ) (cwV 0 hts gJ0_length_8abf5_J0_coder_7d493 rfl rfl rfl (by decide +kernel) ⟨Nat.le_of_ble_eq_true rfl, Nat.le_of_ble_eq_true rfl⟩) (preJV hE hZ hS) rfl rfl hl.1 rfl (lv_room (Nat.le_of_ble_eq_true rfl)) dJ0_length_8abf5_6 ⟨Nat.zero_le _, Nat.zero_le _⟩) ?_
  refine lv_ishr hx hb dJ0_length_8abf5_9 ?_
  rw [show ((nI 5) >>> ((nI 0) &&& 31) : Int32) = nI 5 from by decide]
  exact retRi hx hb hr hlocks rfl dJ0_length_8abf5_10
set_option maxHeartbeats 1000000 in
set_option maxRecDepth 100000 in
theorem k_J1_canEncode_9a6ad (l : Launch) (dC : Nat → ClassId) (dI : Nat → Nat → Nat) (cI cZ : ClassId) (ak av : Nat → Nat) (q9 : Nat) (hq9 : q9 < 127) : Met l yJ1_canEncode_9a6ad wsJ1_canEncode_9a6ad ({ frames := 0, cells := 0, slots := 0, locals := 0 }) (va_Pc [.int (nI q9)] (PJ ak av)) (QRi (nI 1)) 0 0 noF := by
  refine Met.ofW (cc := cJ1_canEncode_9a6ad) (maxL := 1) (ret := (some .boolean)) (by decide) rfl ?_
  intro p e s m args below meth co s₁ B hml hv
  obtain ⟨rfl, hE, hZ⟩ := hv
  have hS : va_S noF s.heap s.heap [] := va_S.rf
  have hx := B.exec
  have hb := B.bytes
  have hr := B.returns
  have hts := atoms_spec (ws := wsJ1_canEncode_9a6ad) B.pre
  have hown : s.vm.findClass RJ1 = some m.cls := findClass_of_methodNamed B.named
  have hlocks := B.notSynchronized
  have hl := lv_entry ([.int (nI q9)]) (n := 1) (Nat.le_of_ble_eq_true rfl)
  rw [lg_entry_eq]
  generalize (lg_sl ([.int (nI q9)]) ++ List.replicate (1 - (lg_sl ([.int (nI q9)])).length) Slot.unset).toArray = ls at hl ⊢
  have hl : lv_has ls 1 [(0, .int (nI q9))] := hl
  refine lv_iload_n hx hb dJ1_canEncode_9a6ad_0 rfl (lv_at hl 0 rfl) ?_
  refine w_ifltN (tgt := 15) hx hb (by omega) dJ1_canEncode_9a6ad_1 (by decide) (fun c_1 => ?_) (fun c_1 => ?_)
  · skip
    first | exact absurd c_1 (by decide) | exact (c_1 : False).elim | omega
  · skip
    refine lv_iload_n hx hb dJ1_canEncode_9a6ad_4 rfl (lv_at hl 0 rfl) ?_
    refine lv_sipush (v := nI 255) hx hb dJ1_canEncode_9a6ad_5 (by decide) ?_
    refine w_ci_gt (tgt := 15) hx hb (by omega) (by omega) dJ1_canEncode_9a6ad_8 (by decide) (fun c_2 => ?_) (fun c_2 => ?_)
    · skip
      omega
    · skip
      refine lv_iconst (v := nI 1) hx hb dJ1_canEncode_9a6ad_11 (by decide) ?_
      refine lv_goto (tgt := 16) hx hb dJ1_canEncode_9a6ad_12 (by decide) ?_
      exact retRz hx hb hr hlocks rfl rfl dJ1_canEncode_9a6ad_16
set_option maxHeartbeats 1000000 in
set_option maxRecDepth 100000 in
theorem k_J1_indexOfChar_4cfef (l : Launch) (dC : Nat → ClassId) (dI : Nat → Nat → Nat) (cI cZ : ClassId) (ak av : Nat → Nat) (q9 : Nat) (hq9 : q9 < 127) : Met l yJ1_indexOfChar_4cfef wsJ1_indexOfChar_4cfef ({ frames := 0, cells := 0, slots := 0, locals := 0 }) (va_Pc [.ref (av 0), .int (nI q9), .int (nI 0), .int (nI 5)] (PJ ak av)) (QRi ((kb (nI q9)))) 0 0 noF := by
  refine Met.ofW (cc := cJ1_indexOfChar_4cfef) (maxL := 6) (ret := (some .int)) (by decide) rfl ?_
  intro p e s m args below meth co s₁ B hml hv
  obtain ⟨rfl, hE, hZ⟩ := hv
  have hS : va_S noF s.heap s.heap [] := va_S.rf
  have hx := B.exec
  have hb := B.bytes
  have hr := B.returns
  have hts := atoms_spec (ws := wsJ1_indexOfChar_4cfef) B.pre
  have hown : s.vm.findClass RJ1 = some m.cls := findClass_of_methodNamed B.named
  have hlocks := B.notSynchronized
  have hl := lv_entry ([.ref (av 0), .int (nI q9), .int (nI 0), .int (nI 5)]) (n := 6) (Nat.le_of_ble_eq_true rfl)
  rw [lg_entry_eq]
  generalize (lg_sl ([.ref (av 0), .int (nI q9), .int (nI 0), .int (nI 5)]) ++ List.replicate (6 - (lg_sl ([.ref (av 0), .int (nI q9), .int (nI 0), .int (nI 5)])).length) Slot.unset).toArray = ls at hl ⊢
  have hl : lv_has ls 6 [(0, .ref (av 0)), (1, .int (nI q9)), (2, .int (nI 0)), (3, .int (nI 5))] := hl
  refine lv_iload_n hx hb dJ1_indexOfChar_4cfef_0 rfl (lv_at hl 1 rfl) ?_
  refine lv_i2b (v := (nI q9).toInt8.toInt32) hx hb dJ1_indexOfChar_4cfef_1 rfl ?_
  rw [show ((nI q9).toInt8.toInt32 : Int32) = nI q9 from i2b_nI hq9]
  refine lv_istore (lv' := [(4, .int (nI q9)), (0, .ref (av 0)), (1, .int (nI q9)), (2, .int (nI 0)), (3, .int (nI 5))]) hx hb dJ1_indexOfChar_4cfef_2 hl (by decide) rfl (fun ls hl => ?_)
  refine lv_iload_n hx hb dJ1_indexOfChar_4cfef_4 rfl (lv_at hl 3 rfl) ?_
  refine lv_istore (lv' := [(5, .int (nI 0)), (4, .int (nI q9)), (0, .ref (av 0)), (1, .int (nI q9)), (2, .int (nI 0)), (3, .int (nI 5))]) hx hb dJ1_indexOfChar_4cfef_5 hl (by decide) rfl (fun ls hl => ?_)
  have lp7 : ∀ (fuel : Nat) (k : Nat), 5 - k < fuel → (k ≤ 5) → (∀ j9 : Nat, j9 < k → ¬ bc j9 = nI q9) → ∀ (ls : Array Slot), lv_has ls 6 [(0, .ref (av 0)), (1, .int (nI q9)), (2, .int (nI 0)), (3, .int (nI 5)), (4, .int (nI q9)), (5, .int (nI k))] → W p l e (headSpec wsJ1_indexOfChar_4cfef ({ frames := 0, cells := 0, slots := 0, locals := 0 })).room s m ([.ref (av 0), .int (nI q9), .int (nI 0), .int (nI 5)] : List Value).toArray below meth co s.heap [] 0 0 (MQ below (QRi ((kb (nI q9)))) ([.ref (av 0), .int (nI q9), .int (nI 0), .int (nI 5)] : List Value).toArray s 0 0 noF) (F0 m 7 ls []) := by
    intro fuel
    induction fuel with
    | zero => intro k h0; exact absurd h0 (Nat.not_lt_zero _)
    | succ fuel ih7 =>
      intro k hm_1 hk hL ls hl
      refine lv_iload hx hb dJ1_indexOfChar_4cfef_7 (lv_at hl 5 rfl) ?_
      refine lv_iload_n hx hb dJ1_indexOfChar_4cfef_9 rfl (lv_at hl 3 rfl) ?_
      refine w_ci_ge (tgt := 31) hx hb (by omega) (by omega) dJ1_indexOfChar_4cfef_10 (by decide) (fun c_2 => ?_) (fun c_2 => ?_)
      · skip
        refine lv_iconst (v := -1) hx hb dJ1_indexOfChar_4cfef_31 (by decide) ?_
        exact retRi hx hb hr hlocks (by exact kb_no (fun j8 h8 => hL j8 (by omega))) dJ1_indexOfChar_4cfef_32
      · skip
        refine lv_aload_n hx hb dJ1_indexOfChar_4cfef_13 rfl (lv_at hl 0 rfl) ?_
        refine lv_iload hx hb dJ1_indexOfChar_4cfef_14 (lv_at hl 5 rfl) ?_
        refine va_tb (i := nI k) (v := .int (bc k)) hx hb (xE.by hE) hS (vp_in_nI (by omega) (by decide)) (by rw [nI_clamp (by omega)]) dJ1_indexOfChar_4cfef_16 ?_
        refine lv_iload hx hb dJ1_indexOfChar_4cfef_17 (lv_at hl 4 rfl) ?_
        refine lv_icmp_ne (tgt := 25) hx hb dJ1_indexOfChar_4cfef_19 (by decide) (fun c_3 => ?_) (fun c_3 => ?_)
        · skip
          refine lv_iinc (v := nI (k + 1)) (lv' := [(5, .int (nI (k + 1))), (0, .ref (av 0)), (1, .int (nI q9)), (2, .int (nI 0)), (3, .int (nI 5)), (4, .int (nI q9))]) hx hb dJ1_indexOfChar_4cfef_25 hl (k := 5) rfl w_inc1 (by decide) rfl (fun ls hl => ?_)
          refine lv_goto (tgt := 7) hx hb dJ1_indexOfChar_4cfef_28 (by decide) ?_
          exact ih7 (k + 1) (by omega) (by first | omega | with_reducible assumption | (first | with_reducible rfl | exact (if_pos (c_3)).symm | exact (if_neg (c_3)).symm | (simp [hq9, hk, hL, c_2, c_3]; done) | omega | rfl)) (by exact bc_s hL c_3) ls (lv_sub hl [1, 2, 3, 4, 5, 0] rfl)
        · skip
          refine lv_iload hx hb dJ1_indexOfChar_4cfef_22 (lv_at hl 5 rfl) ?_
          exact retRi hx hb hr hlocks (by exact kb_at (by omega) c_3) dJ1_indexOfChar_4cfef_24
  exact lp7 (5 - 0 + 1) (0) (Nat.lt_succ_self _) (by first | omega | with_reducible assumption | (first | with_reducible rfl | exact (if_pos (hq9)).symm | exact (if_neg (hq9)).symm | (simp [hq9]; done) | omega | rfl)) (by exact fun _ h9 => absurd h9 (Nat.not_lt_zero _)) ls (lv_sub hl [2, 3, 4, 5, 1, 0] rfl)
set_option maxHeartbeats 1000000 in
set_option maxRecDepth 100000 in
theorem k_J1_indexOf_4cfef (l : Launch) (dC : Nat → ClassId) (dI : Nat → Nat → Nat) (cI cZ : ClassId) (ak av : Nat → Nat) (q9 : Nat) (hq9 : q9 < 127) : Met l yJ1_indexOf_4cfef wsJ1_indexOf_4cfef ({ frames := 1, cells := 0, slots := 0, locals := 25 }) (va_Pc [.ref (av 0), .int (nI q9), .int (nI 0), .int (nI 5)] (PJ ak av)) (QRi ((kb (nI q9)))) 0 0 noF := by
  refine Met.ofW (cc := cJ1_indexOf_4cfef) (maxL := 4) (ret := (some .int)) (by decide) rfl ?_
  intro p e s m args below meth co s₁ B hml hv
  obtain ⟨rfl, hE, hZ⟩ := hv
  have hS : va_S noF s.heap s.heap [] := va_S.rf
  have hx := B.exec
  have hb := B.bytes
  have hr := B.returns
  have hts := atoms_spec (ws := wsJ1_indexOf_4cfef) B.pre
  have hown : s.vm.findClass RJ1 = some m.cls := findClass_of_methodNamed B.named
  have hlocks := B.notSynchronized
  have lcdmax := hts (.code Lib.Math.max.name Lib.Math.max.code 2 (some .int)) (by decide +kernel)
  have lcdmin := hts (.code Lib.Math.min.name Lib.Math.min.code 2 (some .int)) (by decide +kernel)
  have lim := hts (.initialized "java/lang/Math") (by decide +kernel)
  have lk38 := hts (.methodLink RJ1 38 Lib.Math.min.name) (by decide +kernel)
  have lk92 := hts (.methodLink RJ1 92 Lib.Math.max.name) (by decide +kernel)
  have lsmax := hts (.static Lib.Math.max.name) (by decide +kernel)
  have lsmin := hts (.static Lib.Math.min.name) (by decide +kernel)
  have hl := lv_entry ([.ref (av 0), .int (nI q9), .int (nI 0), .int (nI 5)]) (n := 4) (Nat.le_of_ble_eq_true rfl)
  rw [lg_entry_eq]
  generalize (lg_sl ([.ref (av 0), .int (nI q9), .int (nI 0), .int (nI 5)]) ++ List.replicate (4 - (lg_sl ([.ref (av 0), .int (nI q9), .int (nI 0), .int (nI 5)])).length) Slot.unset).toArray = ls at hl ⊢
  have hl : lv_has ls 4 [(0, .ref (av 0)), (1, .int (nI q9)), (2, .int (nI 0)), (3, .int (nI 5))] := hl
  refine lv_iload_n hx hb dJ1_indexOf_4cfef_0 rfl (lv_at hl 1 rfl) ?_
  refine callRi (v := nI 1) (W.runS (As := [.int (nI q9)]) (rest := []) ⟨hx, hb, hml, hown, hts⟩ (k_J1_canEncode_9a6ad l dC dI cI cZ ak av (q9) (by first | omega | with_reducible assumption | (simp; omega))) (va_cwS 1 hts gJ1_indexOf_4cfef_J1_canEncode_9a6ad rfl rfl rfl (by decide +kernel) ⟨Nat.le_of_ble_eq_true rfl, Nat.le_of_ble_eq_true rfl⟩) (preJS hE hZ hS) rfl rfl hl.1 rfl (lv_room (Nat.le_of_ble_eq_true rfl)) dJ1_indexOf_4cfef_1 ⟨Nat.zero_le _, Nat.zero_le _⟩) ?_
  refine w_ifneN (tgt := 9) hx hb (by omega) dJ1_indexOf_4cfef_4 (by decide) (fun c_1 => ?_) (fun c_1 => ?_)
  · skip
    refine lv_iload_n hx hb dJ1_indexOf_4cfef_9 rfl (lv_at hl 2 rfl) ?_
    refine lv_iconst (v := nI 0) hx hb dJ1_indexOf_4cfef_10 (by decide) ?_
    refine va_mmax hx hb (by rw [hml]; exact hl.1.symm) hown lk92 lsmax lim lcdmax (Nat.le_of_ble_eq_true rfl) (Nat.le_of_ble_eq_true rfl) (Nat.zero_le _) (Nat.zero_le _) dJ1_indexOf_4cfef_11 ?_
    rw [show ((if (nI 0 : Int32) < nI 0 then nI 0 else nI 0) : Int32) = nI 0 from by decide]
    refine lv_istore_n (lv' := [(2, .int (nI 0)), (0, .ref (av 0)), (1, .int (nI q9)), (3, .int (nI 5))]) hx hb dJ1_indexOf_4cfef_14 rfl hl (by decide) rfl (fun ls hl => ?_)
    refine lv_iload_n hx hb dJ1_indexOf_4cfef_15 rfl (lv_at hl 3 rfl) ?_
    refine lv_aload_n hx hb dJ1_indexOf_4cfef_16 rfl (lv_at hl 1 rfl) ?_
    refine va_tlen (v := nI 5) hx hb (xE.by hE) hS rfl dJ1_indexOf_4cfef_17 ?_
    refine va_mmin hx hb (by rw [hml]; exact hl.1.symm) hown lk38 lsmin lim lcdmin (Nat.le_of_ble_eq_true rfl) (Nat.le_of_ble_eq_true rfl) (Nat.zero_le _) (Nat.zero_le _) dJ1_indexOf_4cfef_18 ?_
    rw [show ((if (nI 5 : Int32) < nI 5 then nI 5 else nI 5) : Int32) = nI 5 from by decide]
    refine lv_istore_n (lv' := [(3, .int (nI 5)), (2, .int (nI 0)), (0, .ref (av 0)), (1, .int (nI q9))]) hx hb dJ1_indexOf_4cfef_21 rfl hl (by decide) rfl (fun ls hl => ?_)
    refine lv_iload_n hx hb dJ1_indexOf_4cfef_22 rfl (lv_at hl 1 rfl) ?_
    refine lv_iload_n hx hb dJ1_indexOf_4cfef_23 rfl (lv_at hl 0 rfl) ?_
    refine w_ci_lt (tgt := 29) hx hb (by omega) (by omega) dJ1_indexOf_4cfef_24 (by decide) (fun c_2 => ?_) (fun c_2 => ?_)
    · skip
      refine lv_aload_n hx hb dJ1_indexOf_4cfef_29 rfl (lv_at hl 2 rfl) ?_
      refine lv_iload_n hx hb dJ1_indexOf_4cfef_30 rfl (lv_at hl 3 rfl) ?_
      refine lv_iload_n hx hb dJ1_indexOf_4cfef_31 rfl (lv_at hl 1 rfl) ?_
      refine lv_iload_n hx hb dJ1_indexOf_4cfef_32 rfl (lv_at hl 0 rfl) ?_
      refine callRi (v := (kb (nI q9))) (W.runS (As := [.ref (av 0), .int (nI q9), .int (nI 0), .int (nI 5)]) (rest := []) ⟨hx, hb, hml, hown, hts⟩ (k_J1_indexOfChar_4cfef l dC dI cI cZ ak av (q9) (by first | omega | with_reducible assumption | (simp; omega))) (va_cwS 4 hts gJ1_indexOf_4cfef_J1_indexOfChar_4cfef rfl rfl rfl (by decide +kernel) ⟨Nat.le_of_ble_eq_true rfl, Nat.le_of_ble_eq_true rfl⟩) (preJS hE hZ hS) rfl rfl hl.1 rfl (lv_room (Nat.le_of_ble_eq_true rfl)) dJ1_indexOf_4cfef_33 ⟨Nat.zero_le _, Nat.zero_le _⟩) ?_
      exact retRi hx hb hr hlocks rfl dJ1_indexOf_4cfef_36
    · skip
      first | exact absurd c_2 (by decide) | exact (c_2 : False).elim | omega
  · skip
    first | exact absurd c_1 (by decide) | exact (c_1 : False).elim | omega
set_option maxHeartbeats 1000000 in
set_option maxRecDepth 100000 in
theorem k_J0_indexOf_7cf53 (l : Launch) (dC : Nat → ClassId) (dI : Nat → Nat → Nat) (cI cZ : ClassId) (ak av : Nat → Nat) (q9 : Nat) (hq9 : q9 < 127) : Met l yJ0_indexOf_7cf53 wsJ0_indexOf_7cf53 ({ frames := 2, cells := 0, slots := 0, locals := 48 }) (va_Pc [.ref (ak 0), .int (nI q9), .int (nI 0)] (PJ ak av)) (QRi ((kb (nI q9)))) 0 0 noF := by
  refine Met.ofW (cc := cJ0_indexOf_7cf53) (maxL := 3) (ret := (some .int)) (by decide) rfl ?_
  intro p e s m args below meth co s₁ B hml hv
  obtain ⟨rfl, hE, hZ⟩ := hv
  have hS : va_S noF s.heap s.heap [] := va_S.rf
  have hx := B.exec
  have hb := B.bytes
  have hr := B.returns
  have hts := atoms_spec (ws := wsJ0_indexOf_7cf53) B.pre
  have hown : s.vm.findClass RJ0 = some m.cls := findClass_of_methodNamed B.named
  have hlocks := B.notSynchronized
  have lf9 := hts (.fieldLink RJ0 9 "java/lang/String" "value" "[B") (by decide +kernel)
  have hl := lv_entry ([.ref (ak 0), .int (nI q9), .int (nI 0)]) (n := 3) (Nat.le_of_ble_eq_true rfl)
  rw [lg_entry_eq]
  generalize (lg_sl ([.ref (ak 0), .int (nI q9), .int (nI 0)]) ++ List.replicate (3 - (lg_sl ([.ref (ak 0), .int (nI q9), .int (nI 0)])).length) Slot.unset).toArray = ls at hl ⊢
  have hl : lv_has ls 3 [(0, .ref (ak 0)), (1, .int (nI q9)), (2, .int (nI 0))] := hl
  refine lv_aload_n hx hb dJ0_indexOf_7cf53_0 rfl (lv_at hl 0 rfl) ?_
  refine callRi (v := nI 1) (W.runV (As := []) (rest := []) ⟨hx, hb, hml, hown, hts⟩ (k_J0_isLatin1_aae02 l dC dI cI cZ ak av ) (cwV 0 hts gJ0_indexOf_7cf53_J0_isLatin1_aae02 rfl rfl rfl (by decide +kernel) ⟨Nat.le_of_ble_eq_true rfl, Nat.le_of_ble_eq_true rfl⟩) (preJV hE hZ hS) rfl rfl hl.1 rfl (lv_room (Nat.le_of_ble_eq_true rfl)) dJ0_indexOf_7cf53_1 ⟨Nat.zero_le _, Nat.zero_le _⟩) ?_
  refine w_ifeqN (tgt := 23) hx hb (by omega) dJ0_indexOf_7cf53_4 (by decide) (fun c_1 => ?_) (fun c_1 => ?_)
  · skip
    first | exact absurd c_1 (by decide) | exact (c_1 : False).elim | omega
  · skip
    refine lv_aload_n hx hb dJ0_indexOf_7cf53_7 rfl (lv_at hl 0 rfl) ?_
    refine vk_getf hx hb (xE.va hE) hS hown lf9 (fun _ h9 => h9) dJ0_indexOf_7cf53_8 ?_
    refine lv_iload_n hx hb dJ0_indexOf_7cf53_11 rfl (lv_at hl 1 rfl) ?_
    refine lv_iload_n hx hb dJ0_indexOf_7cf53_12 rfl (lv_at hl 2 rfl) ?_
    refine lv_aload_n hx hb dJ0_indexOf_7cf53_13 rfl (lv_at hl 0 rfl) ?_
    refine callRi (v := nI 5) (W.runV (As := []) (rest := [.int (nI 0), .int (nI q9), .ref (av 0)]) ⟨hx, hb, hml, hown, hts⟩ (k_J0_length_8abf5 l dC dI cI cZ ak av ) (cwV 0 hts gJ0_indexOf_7cf53_J0_length_8abf5 rfl rfl rfl (by decide +kernel) ⟨Nat.le_of_ble_eq_true rfl, Nat.le_of_ble_eq_true rfl⟩) (preJV hE hZ hS) rfl rfl hl.1 rfl (lv_room (Nat.le_of_ble_eq_true rfl)) dJ0_indexOf_7cf53_14 ⟨Nat.zero_le _, Nat.zero_le _⟩) ?_
    refine callRi (v := (kb (nI q9))) (W.runS (As := [.ref (av 0), .int (nI q9), .int (nI 0), .int (nI 5)]) (rest := []) ⟨hx, hb, hml, hown, hts⟩ (k_J1_indexOf_4cfef l dC dI cI cZ ak av (q9) (by first | omega | with_reducible assumption | (simp; omega))) (va_cwS 4 hts gJ0_indexOf_7cf53_J1_indexOf_4cfef rfl rfl rfl (by decide +kernel) ⟨Nat.le_of_ble_eq_true rfl, Nat.le_of_ble_eq_true rfl⟩) (preJS hE hZ hS) rfl rfl hl.1 rfl (lv_room (Nat.le_of_ble_eq_true rfl)) dJ0_indexOf_7cf53_17 ⟨Nat.zero_le _, Nat.zero_le _⟩) ?_
    refine lv_goto (tgt := 36) hx hb dJ0_indexOf_7cf53_20 (by decide) ?_
    exact retRi hx hb hr hlocks rfl dJ0_indexOf_7cf53_36
set_option maxHeartbeats 1000000 in
set_option maxRecDepth 100000 in
theorem k_J0_indexOf_0f7a4 (l : Launch) (dC : Nat → ClassId) (dI : Nat → Nat → Nat) (cI cZ : ClassId) (ak av : Nat → Nat) (q9 : Nat) (hq9 : q9 < 127) : Met l yJ0_indexOf_0f7a4 wsJ0_indexOf_0f7a4 ({ frames := 3, cells := 0, slots := 0, locals := 70 }) (va_Pc [.ref (ak 0), .int (nI q9)] (PJ ak av)) (QRi ((kb (nI q9)))) 0 0 noF := by
  refine Met.ofW (cc := cJ0_indexOf_0f7a4) (maxL := 2) (ret := (some .int)) (by decide) rfl ?_
  intro p e s m args below meth co s₁ B hml hv
  obtain ⟨rfl, hE, hZ⟩ := hv
  have hS : va_S noF s.heap s.heap [] := va_S.rf
  have hx := B.exec
  have hb := B.bytes
  have hr := B.returns
  have hts := atoms_spec (ws := wsJ0_indexOf_0f7a4) B.pre
  have hown : s.vm.findClass RJ0 = some m.cls := findClass_of_methodNamed B.named
  have hlocks := B.notSynchronized
  have hl := lv_entry ([.ref (ak 0), .int (nI q9)]) (n := 2) (Nat.le_of_ble_eq_true rfl)
  rw [lg_entry_eq]
  generalize (lg_sl ([.ref (ak 0), .int (nI q9)]) ++ List.replicate (2 - (lg_sl ([.ref (ak 0), .int (nI q9)])).length) Slot.unset).toArray = ls at hl ⊢
  have hl : lv_has ls 2 [(0, .ref (ak 0)), (1, .int (nI q9))] := hl
  refine lv_aload_n hx hb dJ0_indexOf_0f7a4_0 rfl (lv_at hl 0 rfl) ?_
  refine lv_iload_n hx hb dJ0_indexOf_0f7a4_1 rfl (lv_at hl 1 rfl) ?_
  refine lv_iconst (v := nI 0) hx hb dJ0_indexOf_0f7a4_2 (by decide) ?_
  refine callRi (v := (kb (nI q9))) (W.runV (As := [.int (nI q9), .int (nI 0)]) (rest := []) ⟨hx, hb, hml, hown, hts⟩ (k_J0_indexOf_7cf53 l dC dI cI cZ ak av (q9) (by first | omega | with_reducible assumption | (simp; omega))) (cwV 2 hts gJ0_indexOf_0f7a4_J0_indexOf_7cf53 rfl rfl rfl (by decide +kernel) ⟨Nat.le_of_ble_eq_true rfl, Nat.le_of_ble_eq_true rfl⟩) (preJV hE hZ hS) rfl rfl hl.1 rfl (lv_room (Nat.le_of_ble_eq_true rfl)) dJ0_indexOf_0f7a4_3 ⟨Nat.zero_le _, Nat.zero_le _⟩) ?_
  exact retRi hx hb hr hlocks rfl dJ0_indexOf_0f7a4_6
