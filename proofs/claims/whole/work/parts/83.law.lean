set_option maxHeartbeats 8000000 in
set_option maxRecDepth 100000 in
theorem law_loop {p : Program} {l : Launch} {e : Env} {s : State} {m : MethodId} {below : List Frame} {meth : Method} {co : Code} {b L : Nat} {xs : Nat → Int32} {A : Nat → Prop} (dC : Nat → ClassId) (dI : Nat → Nat → Nat) (cI cZ : ClassId) (ak av : Nat → Nat) (hx : p.tables.exec = Jvm.exec) (hb : co.code = cL_law) (hml : co.maxLocals = 4) (hown : s.vm.findClass RL = some m.cls) (hts : ∀ w ∈ wsL_law, w.before #[Value.ref b] s = true) (hX : va_X b L xs s s.heap) (hbl : b < s.heap.size) (hbA : ¬ A b) (hA : ∀ q : Nat, s.heap.size ≤ q → A q) (hK : va_K (dC, dI) vwCl (TYS cI cZ) s) (hE : xE ak av A s s.heap) (hZ : xZ A s s.heap) (hQ : xQ ak s) (hL : L ≤ 2048) (hr : meth.sig.returnType = ret) (hlocks : meth.locks = false) (hAs : ∀ q : Nat, A q → s.heap.size ≤ q) (t0 g0 q0 kq0 tq0 w0 q1 q2 q3 q4 q5 q6 q7 kq1 kq2 kq3 kq4 kq5 kq6 kq7 tq1 tq2 tq3 tq4 tq5 tq6 tq7 g1 m0 m1 m2 m3 m4 m5 m6 m7 : Nat) : ∀ (fuel k j : Nat), 2052 - k < fuel → k ≤ 2048 → k = 4 * j → LAt p l e s m below meth co b A (dC, dI) cI cZ t0 g0 q0 kq0 tq0 w0 q1 q2 q3 q4 q5 q6 q7 kq1 kq2 kq3 kq4 kq5 kq6 kq7 tq1 tq2 tq3 tq4 tq5 tq6 tq7 g1 m0 m1 m2 m3 m4 m5 m6 m7 k j 18 := by
  intro fuel
  induction fuel with
  | zero => intro k j h0; exact absurd h0 (Nat.not_lt_zero _)
  | succ fuel ih =>
    intro k j h0 h8 hkj mr mh mp mt mv mkr mkh fk_k fs_k fn_k fi_k fc_k fw_k ft_k fk_t fs_t fn_t fi_t fc_t fw_t ft_t n h pn n_k h_k n_t h_t sdn kh sx th tt sr tp ks kth ktt th_k tt_k th_t tt_t hs jM jH jP hnt jK hKp jC H locs hP hD hS ls hl
    refine lv_iload_n hx hb dL_law_18 rfl (lv_at hl 3 rfl) ?_
    refine lv_aload_n hx hb dL_law_19 rfl (lv_at hl 0 rfl) ?_
    refine va_slen hx hb hX hbl hbA hS dL_law_20 ?_
    refine lv_iconst (v := nI 4) hx hb dL_law_21 (by decide) ?_
    refine lv_isub hx hb dL_law_22 ?_
    refine lv_icmp_gt (tgt := 695) hx hb dL_law_23 (by decide) (fun w1 => ?_) (fun w1 => ?_)
    · refine lv_iconst (v := nI 1) hx hb dL_law_695 (by decide) ?_
      refine va_forget (fun q h => hAs _ (hS.2.2 q h)) ?_
      exact lw_ret hx hb hr hlocks dL_law_696
    · have hk : k + 4 ≤ L := by
        rcases Nat.lt_or_ge L (k + 4) with q | q
        · exact absurd ((sub4 hL (by omega)).mpr (by omega)) w1
        · exact q
      have hj : j ≤ 4096 := by omega
      have nx : LAt p l e s m below meth co b A (dC, dI) cI cZ t0 g0 q0 kq0 tq0 w0 q1 q2 q3 q4 q5 q6 q7 kq1 kq2 kq3 kq4 kq5 kq6 kq7 tq1 tq2 tq3 tq4 tq5 tq6 tq7 g1 m0 m1 m2 m3 m4 m5 m6 m7 k (j + 1) 689 := by
        intro mr mh mp mt mv mkr mkh fk_k fs_k fn_k fi_k fc_k fw_k ft_k fk_t fs_t fn_t fi_t fc_t fw_t ft_t n h pn n_k h_k n_t h_t sdn kh sx th tt sr tp ks kth ktt th_k tt_k th_t tt_t hs jM jH jP hnt jK hKp jC H locs hP hD hS ls hl
        refine lv_iinc (v := nI (k + 4)) (lv' := [(3, .int (nI (k + 4))), (0, .ref b), (1, .ref t0), (2, .ref m0)]) hx hb dL_law_689 hl (k := 3) rfl w_inc4 (by decide) rfl (fun ls hl => ?_)
        refine lv_goto (tgt := 18) hx hb dL_law_692 (by decide) ?_
        exact ih (k + 4) (j + 1) (by omega) (by omega) (by omega) mr mh mp mt mv mkr mkh fk_k fs_k fn_k fi_k fc_k fw_k ft_k fk_t fs_t fn_t fi_t fc_t fw_t ft_t n h pn n_k h_k n_t h_t sdn kh sx th tt sr tp ks kth ktt th_k tt_k th_t tt_t hs jM jH jP hnt jK hKp jC H locs hP hD hS ls (lv_sub hl [1, 2, 3, 0] rfl)
      refine lv_aload_n hx hb dL_law_26 rfl (lv_at hl 0 rfl) ?_
      refine lv_iload_n hx hb dL_law_27 rfl (lv_at hl 3 rfl) ?_
      refine w_sld (k := k) hx hb hX hbl hbA hS (by omega) hL dL_law_28 ?_
      refine lv_bipush (v := nI 31) hx hb dL_law_29 (by decide) ?_
      refine lv_iand hx hb dL_law_31 ?_
      generalize xs k &&& nI 31 = x
      by_cases sw0 : x = nI 0
      · refine lv_tableIn (tgt := 136) hx hb dL_law_32 (by rw [sw0]; decide) (by rw [sw0]; decide) (by rw [sw0]; rfl) (by decide) ?_
        exact lop_136 dC dI cI cZ ak av hx hb hml hown hts hX hbl hbA hA hK hE hZ hQ hL t0 g0 q0 kq0 tq0 w0 q1 q2 q3 q4 q5 q6 q7 kq1 kq2 kq3 kq4 kq5 kq6 kq7 tq1 tq2 tq3 tq4 tq5 tq6 tq7 g1 m0 m1 m2 m3 m4 m5 m6 m7 k j hk hj nx mr mh mp mt mv mkr mkh fk_k fs_k fn_k fi_k fc_k fw_k ft_k fk_t fs_t fn_t fi_t fc_t fw_t ft_t n h pn n_k h_k n_t h_t sdn kh sx th tt sr tp ks kth ktt th_k tt_k th_t tt_t hs jM jH jP hnt jK hKp jC H locs hP hD hS ls hl
      by_cases sw1 : x = nI 1
      · refine lv_tableIn (tgt := 159) hx hb dL_law_32 (by rw [sw1]; decide) (by rw [sw1]; decide) (by rw [sw1]; rfl) (by decide) ?_
        exact lop_159 dC dI cI cZ ak av hx hb hml hown hts hX hbl hbA hA hK hE hZ hQ hL t0 g0 q0 kq0 tq0 w0 q1 q2 q3 q4 q5 q6 q7 kq1 kq2 kq3 kq4 kq5 kq6 kq7 tq1 tq2 tq3 tq4 tq5 tq6 tq7 g1 m0 m1 m2 m3 m4 m5 m6 m7 k j hk hj nx mr mh mp mt mv mkr mkh fk_k fs_k fn_k fi_k fc_k fw_k ft_k fk_t fs_t fn_t fi_t fc_t fw_t ft_t n h pn n_k h_k n_t h_t sdn kh sx th tt sr tp ks kth ktt th_k tt_k th_t tt_t hs jM jH jP hnt jK hKp jC H locs hP hD hS ls hl
      by_cases sw2 : x = nI 2
      · refine lv_tableIn (tgt := 172) hx hb dL_law_32 (by rw [sw2]; decide) (by rw [sw2]; decide) (by rw [sw2]; rfl) (by decide) ?_
        exact lop_172 dC dI cI cZ ak av hx hb hml hown hts hX hbl hbA hA hK hE hZ hQ hL t0 g0 q0 kq0 tq0 w0 q1 q2 q3 q4 q5 q6 q7 kq1 kq2 kq3 kq4 kq5 kq6 kq7 tq1 tq2 tq3 tq4 tq5 tq6 tq7 g1 m0 m1 m2 m3 m4 m5 m6 m7 k j hk hj nx mr mh mp mt mv mkr mkh fk_k fs_k fn_k fi_k fc_k fw_k ft_k fk_t fs_t fn_t fi_t fc_t fw_t ft_t n h pn n_k h_k n_t h_t sdn kh sx th tt sr tp ks kth ktt th_k tt_k th_t tt_t hs jM jH jP hnt jK hKp jC H locs hP hD hS ls hl
      by_cases sw3 : x = nI 3
      · refine lv_tableIn (tgt := 185) hx hb dL_law_32 (by rw [sw3]; decide) (by rw [sw3]; decide) (by rw [sw3]; rfl) (by decide) ?_
        exact lop_185 dC dI cI cZ ak av hx hb hml hown hts hX hbl hbA hA hK hE hZ hQ hL t0 g0 q0 kq0 tq0 w0 q1 q2 q3 q4 q5 q6 q7 kq1 kq2 kq3 kq4 kq5 kq6 kq7 tq1 tq2 tq3 tq4 tq5 tq6 tq7 g1 m0 m1 m2 m3 m4 m5 m6 m7 k j hk hj nx mr mh mp mt mv mkr mkh fk_k fs_k fn_k fi_k fc_k fw_k ft_k fk_t fs_t fn_t fi_t fc_t fw_t ft_t n h pn n_k h_k n_t h_t sdn kh sx th tt sr tp ks kth ktt th_k tt_k th_t tt_t hs jM jH jP hnt jK hKp jC H locs hP hD hS ls hl
      by_cases sw4 : x = nI 4
      · refine lv_tableIn (tgt := 198) hx hb dL_law_32 (by rw [sw4]; decide) (by rw [sw4]; decide) (by rw [sw4]; rfl) (by decide) ?_
        exact lop_198 dC dI cI cZ ak av hx hb hml hown hts hX hbl hbA hA hK hE hZ hQ hL t0 g0 q0 kq0 tq0 w0 q1 q2 q3 q4 q5 q6 q7 kq1 kq2 kq3 kq4 kq5 kq6 kq7 tq1 tq2 tq3 tq4 tq5 tq6 tq7 g1 m0 m1 m2 m3 m4 m5 m6 m7 k j hk hj nx mr mh mp mt mv mkr mkh fk_k fs_k fn_k fi_k fc_k fw_k ft_k fk_t fs_t fn_t fi_t fc_t fw_t ft_t n h pn n_k h_k n_t h_t sdn kh sx th tt sr tp ks kth ktt th_k tt_k th_t tt_t hs jM jH jP hnt jK hKp jC H locs hP hD hS ls hl
      by_cases sw5 : x = nI 5
      · refine lv_tableIn (tgt := 231) hx hb dL_law_32 (by rw [sw5]; decide) (by rw [sw5]; decide) (by rw [sw5]; rfl) (by decide) ?_
        exact lop_231 dC dI cI cZ ak av hx hb hml hown hts hX hbl hbA hA hK hE hZ hQ hL t0 g0 q0 kq0 tq0 w0 q1 q2 q3 q4 q5 q6 q7 kq1 kq2 kq3 kq4 kq5 kq6 kq7 tq1 tq2 tq3 tq4 tq5 tq6 tq7 g1 m0 m1 m2 m3 m4 m5 m6 m7 k j hk hj nx mr mh mp mt mv mkr mkh fk_k fs_k fn_k fi_k fc_k fw_k ft_k fk_t fs_t fn_t fi_t fc_t fw_t ft_t n h pn n_k h_k n_t h_t sdn kh sx th tt sr tp ks kth ktt th_k tt_k th_t tt_t hs jM jH jP hnt jK hKp jC H locs hP hD hS ls hl
      by_cases sw6 : x = nI 6
      · refine lv_tableIn (tgt := 264) hx hb dL_law_32 (by rw [sw6]; decide) (by rw [sw6]; decide) (by rw [sw6]; rfl) (by decide) ?_
        exact lop_264 dC dI cI cZ ak av hx hb hml hown hts hX hbl hbA hA hK hE hZ hQ hL t0 g0 q0 kq0 tq0 w0 q1 q2 q3 q4 q5 q6 q7 kq1 kq2 kq3 kq4 kq5 kq6 kq7 tq1 tq2 tq3 tq4 tq5 tq6 tq7 g1 m0 m1 m2 m3 m4 m5 m6 m7 k j hk hj nx mr mh mp mt mv mkr mkh fk_k fs_k fn_k fi_k fc_k fw_k ft_k fk_t fs_t fn_t fi_t fc_t fw_t ft_t n h pn n_k h_k n_t h_t sdn kh sx th tt sr tp ks kth ktt th_k tt_k th_t tt_t hs jM jH jP hnt jK hKp jC H locs hP hD hS ls hl
      by_cases sw7 : x = nI 7
      · refine lv_tableIn (tgt := 297) hx hb dL_law_32 (by rw [sw7]; decide) (by rw [sw7]; decide) (by rw [sw7]; rfl) (by decide) ?_
        exact lop_297 dC dI cI cZ ak av hx hb hml hown hts hX hbl hbA hA hK hE hZ hQ hL t0 g0 q0 kq0 tq0 w0 q1 q2 q3 q4 q5 q6 q7 kq1 kq2 kq3 kq4 kq5 kq6 kq7 tq1 tq2 tq3 tq4 tq5 tq6 tq7 g1 m0 m1 m2 m3 m4 m5 m6 m7 k j hk hj nx mr mh mp mt mv mkr mkh fk_k fs_k fn_k fi_k fc_k fw_k ft_k fk_t fs_t fn_t fi_t fc_t fw_t ft_t n h pn n_k h_k n_t h_t sdn kh sx th tt sr tp ks kth ktt th_k tt_k th_t tt_t hs jM jH jP hnt jK hKp jC H locs hP hD hS ls hl
      by_cases sw8 : x = nI 8
      · refine lv_tableIn (tgt := 330) hx hb dL_law_32 (by rw [sw8]; decide) (by rw [sw8]; decide) (by rw [sw8]; rfl) (by decide) ?_
        exact lop_330 dC dI cI cZ ak av hx hb hml hown hts hX hbl hbA hA hK hE hZ hQ hL t0 g0 q0 kq0 tq0 w0 q1 q2 q3 q4 q5 q6 q7 kq1 kq2 kq3 kq4 kq5 kq6 kq7 tq1 tq2 tq3 tq4 tq5 tq6 tq7 g1 m0 m1 m2 m3 m4 m5 m6 m7 k j hk hj nx mr mh mp mt mv mkr mkh fk_k fs_k fn_k fi_k fc_k fw_k ft_k fk_t fs_t fn_t fi_t fc_t fw_t ft_t n h pn n_k h_k n_t h_t sdn kh sx th tt sr tp ks kth ktt th_k tt_k th_t tt_t hs jM jH jP hnt jK hKp jC H locs hP hD hS ls hl
      by_cases sw9 : x = nI 9
      · refine lv_tableIn (tgt := 379) hx hb dL_law_32 (by rw [sw9]; decide) (by rw [sw9]; decide) (by rw [sw9]; rfl) (by decide) ?_
        exact lop_379 dC dI cI cZ ak av hx hb hml hown hts hX hbl hbA hA hK hE hZ hQ hL t0 g0 q0 kq0 tq0 w0 q1 q2 q3 q4 q5 q6 q7 kq1 kq2 kq3 kq4 kq5 kq6 kq7 tq1 tq2 tq3 tq4 tq5 tq6 tq7 g1 m0 m1 m2 m3 m4 m5 m6 m7 k j hk hj nx mr mh mp mt mv mkr mkh fk_k fs_k fn_k fi_k fc_k fw_k ft_k fk_t fs_t fn_t fi_t fc_t fw_t ft_t n h pn n_k h_k n_t h_t sdn kh sx th tt sr tp ks kth ktt th_k tt_k th_t tt_t hs jM jH jP hnt jK hKp jC H locs hP hD hS ls hl
      by_cases sw10 : x = nI 10
      · refine lv_tableIn (tgt := 412) hx hb dL_law_32 (by rw [sw10]; decide) (by rw [sw10]; decide) (by rw [sw10]; rfl) (by decide) ?_
        exact lop_412 dC dI cI cZ ak av hx hb hml hown hts hX hbl hbA hA hK hE hZ hQ hL t0 g0 q0 kq0 tq0 w0 q1 q2 q3 q4 q5 q6 q7 kq1 kq2 kq3 kq4 kq5 kq6 kq7 tq1 tq2 tq3 tq4 tq5 tq6 tq7 g1 m0 m1 m2 m3 m4 m5 m6 m7 k j hk hj nx mr mh mp mt mv mkr mkh fk_k fs_k fn_k fi_k fc_k fw_k ft_k fk_t fs_t fn_t fi_t fc_t fw_t ft_t n h pn n_k h_k n_t h_t sdn kh sx th tt sr tp ks kth ktt th_k tt_k th_t tt_t hs jM jH jP hnt jK hKp jC H locs hP hD hS ls hl
      by_cases sw11 : x = nI 11
      · refine lv_tableIn (tgt := 425) hx hb dL_law_32 (by rw [sw11]; decide) (by rw [sw11]; decide) (by rw [sw11]; rfl) (by decide) ?_
        exact lop_425 dC dI cI cZ ak av hx hb hml hown hts hX hbl hbA hA hK hE hZ hQ hL t0 g0 q0 kq0 tq0 w0 q1 q2 q3 q4 q5 q6 q7 kq1 kq2 kq3 kq4 kq5 kq6 kq7 tq1 tq2 tq3 tq4 tq5 tq6 tq7 g1 m0 m1 m2 m3 m4 m5 m6 m7 k j hk hj nx mr mh mp mt mv mkr mkh fk_k fs_k fn_k fi_k fc_k fw_k ft_k fk_t fs_t fn_t fi_t fc_t fw_t ft_t n h pn n_k h_k n_t h_t sdn kh sx th tt sr tp ks kth ktt th_k tt_k th_t tt_t hs jM jH jP hnt jK hKp jC H locs hP hD hS ls hl
      by_cases sw12 : x = nI 12
      · refine lv_tableIn (tgt := 458) hx hb dL_law_32 (by rw [sw12]; decide) (by rw [sw12]; decide) (by rw [sw12]; rfl) (by decide) ?_
        exact lop_458 dC dI cI cZ ak av hx hb hml hown hts hX hbl hbA hA hK hE hZ hQ hL t0 g0 q0 kq0 tq0 w0 q1 q2 q3 q4 q5 q6 q7 kq1 kq2 kq3 kq4 kq5 kq6 kq7 tq1 tq2 tq3 tq4 tq5 tq6 tq7 g1 m0 m1 m2 m3 m4 m5 m6 m7 k j hk hj nx mr mh mp mt mv mkr mkh fk_k fs_k fn_k fi_k fc_k fw_k ft_k fk_t fs_t fn_t fi_t fc_t fw_t ft_t n h pn n_k h_k n_t h_t sdn kh sx th tt sr tp ks kth ktt th_k tt_k th_t tt_t hs jM jH jP hnt jK hKp jC H locs hP hD hS ls hl
      by_cases sw13 : x = nI 13
      · refine lv_tableIn (tgt := 491) hx hb dL_law_32 (by rw [sw13]; decide) (by rw [sw13]; decide) (by rw [sw13]; rfl) (by decide) ?_
        exact lop_491 dC dI cI cZ ak av hx hb hml hown hts hX hbl hbA hA hK hE hZ hQ hL t0 g0 q0 kq0 tq0 w0 q1 q2 q3 q4 q5 q6 q7 kq1 kq2 kq3 kq4 kq5 kq6 kq7 tq1 tq2 tq3 tq4 tq5 tq6 tq7 g1 m0 m1 m2 m3 m4 m5 m6 m7 k j hk hj nx mr mh mp mt mv mkr mkh fk_k fs_k fn_k fi_k fc_k fw_k ft_k fk_t fs_t fn_t fi_t fc_t fw_t ft_t n h pn n_k h_k n_t h_t sdn kh sx th tt sr tp ks kth ktt th_k tt_k th_t tt_t hs jM jH jP hnt jK hKp jC H locs hP hD hS ls hl
      by_cases sw14 : x = nI 14
      · refine lv_tableIn (tgt := 504) hx hb dL_law_32 (by rw [sw14]; decide) (by rw [sw14]; decide) (by rw [sw14]; rfl) (by decide) ?_
        exact lop_504 dC dI cI cZ ak av hx hb hml hown hts hX hbl hbA hA hK hE hZ hQ hL t0 g0 q0 kq0 tq0 w0 q1 q2 q3 q4 q5 q6 q7 kq1 kq2 kq3 kq4 kq5 kq6 kq7 tq1 tq2 tq3 tq4 tq5 tq6 tq7 g1 m0 m1 m2 m3 m4 m5 m6 m7 k j hk hj nx mr mh mp mt mv mkr mkh fk_k fs_k fn_k fi_k fc_k fw_k ft_k fk_t fs_t fn_t fi_t fc_t fw_t ft_t n h pn n_k h_k n_t h_t sdn kh sx th tt sr tp ks kth ktt th_k tt_k th_t tt_t hs jM jH jP hnt jK hKp jC H locs hP hD hS ls hl
      by_cases sw15 : x = nI 15
      · refine lv_tableIn (tgt := 527) hx hb dL_law_32 (by rw [sw15]; decide) (by rw [sw15]; decide) (by rw [sw15]; rfl) (by decide) ?_
        exact lop_527 dC dI cI cZ ak av hx hb hml hown hts hX hbl hbA hA hK hE hZ hQ hL t0 g0 q0 kq0 tq0 w0 q1 q2 q3 q4 q5 q6 q7 kq1 kq2 kq3 kq4 kq5 kq6 kq7 tq1 tq2 tq3 tq4 tq5 tq6 tq7 g1 m0 m1 m2 m3 m4 m5 m6 m7 k j hk hj nx mr mh mp mt mv mkr mkh fk_k fs_k fn_k fi_k fc_k fw_k ft_k fk_t fs_t fn_t fi_t fc_t fw_t ft_t n h pn n_k h_k n_t h_t sdn kh sx th tt sr tp ks kth ktt th_k tt_k th_t tt_t hs jM jH jP hnt jK hKp jC H locs hP hD hS ls hl
      by_cases sw16 : x = nI 16
      · refine lv_tableIn (tgt := 570) hx hb dL_law_32 (by rw [sw16]; decide) (by rw [sw16]; decide) (by rw [sw16]; rfl) (by decide) ?_
        exact lop_570 dC dI cI cZ ak av hx hb hml hown hts hX hbl hbA hA hK hE hZ hQ hL t0 g0 q0 kq0 tq0 w0 q1 q2 q3 q4 q5 q6 q7 kq1 kq2 kq3 kq4 kq5 kq6 kq7 tq1 tq2 tq3 tq4 tq5 tq6 tq7 g1 m0 m1 m2 m3 m4 m5 m6 m7 k j hk hj nx mr mh mp mt mv mkr mkh fk_k fs_k fn_k fi_k fc_k fw_k ft_k fk_t fs_t fn_t fi_t fc_t fw_t ft_t n h pn n_k h_k n_t h_t sdn kh sx th tt sr tp ks kth ktt th_k tt_k th_t tt_t hs jM jH jP hnt jK hKp jC H locs hP hD hS ls hl
      by_cases sw17 : x = nI 17
      · refine lv_tableIn (tgt := 583) hx hb dL_law_32 (by rw [sw17]; decide) (by rw [sw17]; decide) (by rw [sw17]; rfl) (by decide) ?_
        exact lop_583 dC dI cI cZ ak av hx hb hml hown hts hX hbl hbA hA hK hE hZ hQ hL t0 g0 q0 kq0 tq0 w0 q1 q2 q3 q4 q5 q6 q7 kq1 kq2 kq3 kq4 kq5 kq6 kq7 tq1 tq2 tq3 tq4 tq5 tq6 tq7 g1 m0 m1 m2 m3 m4 m5 m6 m7 k j hk hj nx mr mh mp mt mv mkr mkh fk_k fs_k fn_k fi_k fc_k fw_k ft_k fk_t fs_t fn_t fi_t fc_t fw_t ft_t n h pn n_k h_k n_t h_t sdn kh sx th tt sr tp ks kth ktt th_k tt_k th_t tt_t hs jM jH jP hnt jK hKp jC H locs hP hD hS ls hl
      by_cases sw18 : x = nI 18
      · refine lv_tableIn (tgt := 626) hx hb dL_law_32 (by rw [sw18]; decide) (by rw [sw18]; decide) (by rw [sw18]; rfl) (by decide) ?_
        exact lop_626 dC dI cI cZ ak av hx hb hml hown hts hX hbl hbA hA hK hE hZ hQ hL t0 g0 q0 kq0 tq0 w0 q1 q2 q3 q4 q5 q6 q7 kq1 kq2 kq3 kq4 kq5 kq6 kq7 tq1 tq2 tq3 tq4 tq5 tq6 tq7 g1 m0 m1 m2 m3 m4 m5 m6 m7 k j hk hj nx mr mh mp mt mv mkr mkh fk_k fs_k fn_k fi_k fc_k fw_k ft_k fk_t fs_t fn_t fi_t fc_t fw_t ft_t n h pn n_k h_k n_t h_t sdn kh sx th tt sr tp ks kth ktt th_k tt_k th_t tt_t hs jM jH jP hnt jK hKp jC H locs hP hD hS ls hl
      by_cases sw19 : x = nI 19
      · refine lv_tableIn (tgt := 639) hx hb dL_law_32 (by rw [sw19]; decide) (by rw [sw19]; decide) (by rw [sw19]; rfl) (by decide) ?_
        exact lop_639 dC dI cI cZ ak av hx hb hml hown hts hX hbl hbA hA hK hE hZ hQ hL t0 g0 q0 kq0 tq0 w0 q1 q2 q3 q4 q5 q6 q7 kq1 kq2 kq3 kq4 kq5 kq6 kq7 tq1 tq2 tq3 tq4 tq5 tq6 tq7 g1 m0 m1 m2 m3 m4 m5 m6 m7 k j hk hj nx mr mh mp mt mv mkr mkh fk_k fs_k fn_k fi_k fc_k fw_k ft_k fk_t fs_t fn_t fi_t fc_t fw_t ft_t n h pn n_k h_k n_t h_t sdn kh sx th tt sr tp ks kth ktt th_k tt_k th_t tt_t hs jM jH jP hnt jK hKp jC H locs hP hD hS ls hl
      by_cases sw20 : x = nI 20
      · refine lv_tableIn (tgt := 652) hx hb dL_law_32 (by rw [sw20]; decide) (by rw [sw20]; decide) (by rw [sw20]; rfl) (by decide) ?_
        exact lop_652 dC dI cI cZ ak av hx hb hml hown hts hX hbl hbA hA hK hE hZ hQ hL t0 g0 q0 kq0 tq0 w0 q1 q2 q3 q4 q5 q6 q7 kq1 kq2 kq3 kq4 kq5 kq6 kq7 tq1 tq2 tq3 tq4 tq5 tq6 tq7 g1 m0 m1 m2 m3 m4 m5 m6 m7 k j hk hj nx mr mh mp mt mv mkr mkh fk_k fs_k fn_k fi_k fc_k fw_k ft_k fk_t fs_t fn_t fi_t fc_t fw_t ft_t n h pn n_k h_k n_t h_t sdn kh sx th tt sr tp ks kth ktt th_k tt_k th_t tt_t hs jM jH jP hnt jK hKp jC H locs hP hD hS ls hl
      by_cases sw21 : x = nI 21
      · refine lv_tableIn (tgt := 675) hx hb dL_law_32 (by rw [sw21]; decide) (by rw [sw21]; decide) (by rw [sw21]; rfl) (by decide) ?_
        exact lop_675 dC dI cI cZ ak av hx hb hml hown hts hX hbl hbA hA hK hE hZ hQ hL t0 g0 q0 kq0 tq0 w0 q1 q2 q3 q4 q5 q6 q7 kq1 kq2 kq3 kq4 kq5 kq6 kq7 tq1 tq2 tq3 tq4 tq5 tq6 tq7 g1 m0 m1 m2 m3 m4 m5 m6 m7 k j hk hj nx mr mh mp mt mv mkr mkh fk_k fs_k fn_k fi_k fc_k fw_k ft_k fk_t fs_t fn_t fi_t fc_t fw_t ft_t n h pn n_k h_k n_t h_t sdn kh sx th tt sr tp ks kth ktt th_k tt_k th_t tt_t hs jM jH jP hnt jK hKp jC H locs hP hD hS ls hl
      refine lv_tableOut (tgt := 689) hx hb dL_law_32 (by have z0 := w_tne (k := 0) (by decide) sw0; have z1 := w_tne (k := 1) (by decide) sw1; have z2 := w_tne (k := 2) (by decide) sw2; have z3 := w_tne (k := 3) (by decide) sw3; have z4 := w_tne (k := 4) (by decide) sw4; have z5 := w_tne (k := 5) (by decide) sw5; have z6 := w_tne (k := 6) (by decide) sw6; have z7 := w_tne (k := 7) (by decide) sw7; have z8 := w_tne (k := 8) (by decide) sw8; have z9 := w_tne (k := 9) (by decide) sw9; have z10 := w_tne (k := 10) (by decide) sw10; have z11 := w_tne (k := 11) (by decide) sw11; have z12 := w_tne (k := 12) (by decide) sw12; have z13 := w_tne (k := 13) (by decide) sw13; have z14 := w_tne (k := 14) (by decide) sw14; have z15 := w_tne (k := 15) (by decide) sw15; have z16 := w_tne (k := 16) (by decide) sw16; have z17 := w_tne (k := 17) (by decide) sw17; have z18 := w_tne (k := 18) (by decide) sw18; have z19 := w_tne (k := 19) (by decide) sw19; have z20 := w_tne (k := 20) (by decide) sw20; have z21 := w_tne (k := 21) (by decide) sw21; omega) (by decide) ?_
      exact nx mr mh mp mt mv mkr mkh fk_k fs_k fn_k fi_k fc_k fw_k ft_k fk_t fs_t fn_t fi_t fc_t fw_t ft_t n h pn n_k h_k n_t h_t sdn kh sx th tt sr tp ks kth ktt th_k tt_k th_t tt_t hs jM jH jP hnt jK hKp (CN_s jC) H locs hP hD hS ls hl
