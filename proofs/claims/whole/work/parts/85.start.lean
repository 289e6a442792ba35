set_option maxHeartbeats 8000000 in
set_option maxRecDepth 100000 in
theorem law_text {s : State} {b : Nat} (hts0 : ∀ w ∈ lw_tbl, w.before #[Value.ref b] s = true) (hgv : (Jvm.Cond.and given_1 narrow_1).before #[Value.ref b] s = true) : ∃ ak av : Nat → Nat, xE ak av (fun q => s.heap.size ≤ q) s s.heap ∧ xZ (fun q => s.heap.size ≤ q) s s.heap ∧ xQ ak s := by
  have hs := flat_of_before _ hgv
  have hA0 : ∀ a : Nat, a < s.heap.size → ¬ (fun q => s.heap.size ≤ q) a := fun a h g => absurd h (Nat.not_lt.mpr g)
  obtain ⟨ak, av, hE, hT⟩ := vk_Sof (N := 1) (tm := fun _ => .string "ThursdayRungs$Page" 34) (len := [5]) (byt := BYT) (A := fun q => s.heap.size ≤ q) (args := #[Value.ref b]) (s := s)
    (fun i hi => by obtain rfl : i = 0 := by omega
                    decide)
    (fun i hi => hs _ (by decide +kernel))
    (fun i hi => hs _ (by decide +kernel))
    (fun i hi => hs _ (by decide +kernel))
    (fun i hi => by obtain rfl : i = 0 := by omega
                    exact hs _ (by decide +kernel))
    (fun i hi j hj => by
      obtain rfl : i = 0 := by omega
      have hj5 : j < 5 := hj
      have h5 : j = 0 ∨ j = 1 ∨ j = 2 ∨ j = 3 ∨ j = 4 := by omega
      rcases h5 with rfl | rfl | rfl | rfl | rfl
      · exact hs _ (by decide +kernel)
      · exact hs _ (by decide +kernel)
      · exact hs _ (by decide +kernel)
      · exact hs _ (by decide +kernel)
      · exact hs _ (by decide +kernel))
    (fun i j hi hj h => absurd (show i = j by omega) h) hA0
  refine ⟨ak, av, hE, ?_, ?_⟩
  · exact va_Zof (v := .int (nI 1)) (hts0 (.laysStatic "java/lang/String" "COMPACT_STRINGS" "Z") (List.mem_append_right _ (by decide +kernel))) (hts0 (.initialized "java/lang/String") (List.mem_append_right _ (by decide +kernel))) (va_eqi (hs _ (by decide +kernel))) hA0
  · exact vk_R.of (hts0 (.stringRef RX2 34 "cptme") (List.mem_append_right _ (by decide +kernel))) (hT 0 (by decide))
set_option maxHeartbeats 8000000 in
set_option maxRecDepth 100000 in
theorem law_K {s : State} {b : Nat} (hts : ∀ w ∈ wsL_law, w.before #[Value.ref b] s = true) : ∃ (dC : Nat → ClassId) (dI : Nat → Nat → Nat) (cI cZ : ClassId), va_K (dC, dI) vwCl (TYS cI cZ) s := by
  obtain ⟨d0, i0, k0⟩ := u_known (C := RX0) (T := TX0) (N := 1) hts inlX0 (hts (.instantiable RX0 1) (by decide +kernel))
  obtain ⟨d2, i2, k2⟩ := u_known (C := RX2) (T := TX2) (N := 2) hts inlX2 (hts (.instantiable RX2 2) (by decide +kernel))
  obtain ⟨d3, i3, k3⟩ := u_known (C := RX3) (T := TX3) (N := 11) hts inlX3 (hts (.instantiable RX3 11) (by decide +kernel))
  obtain ⟨d4, i4, k4⟩ := u_known (C := RX4) (T := TX4) (N := 6) hts inlX4 (hts (.instantiable RX4 6) (by decide +kernel))
  obtain ⟨d5, i5, k5⟩ := u_known (C := RX5) (T := TX5) (N := 20) hts inlX5 (hts (.instantiable RX5 20) (by decide +kernel))
  obtain ⟨cI, kI, pI, e1, e2, e3⟩ := Cond.arrayClass_spec (hts (.arrayClass .int) (by decide +kernel))
  obtain ⟨cZ, kZ, pZ, f1, f2, f3⟩ := Cond.arrayClass_spec (hts (.arrayClass .boolean) (by decide +kernel))
  refine ⟨fun j => [d0, d2, d3, d4, d5].getD j d0, fun j => [i0, i2, i3, i4, i5].getD j i0, cI, cZ, fun k q h => ?_, fun k q h => ?_⟩
  · match k, h with
    | 0, h => cases h; exact k0
    | 1, h => cases h; exact k2
    | 2, h => cases h; exact k3
    | 3, h => cases h; exact k4
    | 4, h => cases h; exact k5
    | k + 5, h => exact absurd h (by simp)
  · match k, h with
    | 0, h => cases h; exact ⟨fun _ _ => ⟨fun k h => (by cases h), kI, e2, pI, e3⟩, e1⟩
    | 1, h => cases h; exact ⟨fun _ _ => ⟨fun k h => (by cases h), kZ, f2, pZ, f3⟩, f1⟩
    | k + 2, h => exact absurd h (by simp)
set_option maxHeartbeats 8000000 in
set_option maxRecDepth 100000 in
/-- YOUR PART: from the entry, for every script of at most 2048 ints, the law comes to its end with true -/
theorem whole_start {p : Program} {e : Env} {s : State} {m : MethodId} {below : List Frame} {meth : Method} {c : Code} (l : Launch) (hflags : l.flags = flags0) {b L : Nat} {xs : Nat → Int32} (hL : L ≤ 2048) (C0 : lw_At p s m meth c b L xs) : W p l e room_1 s m #[Value.ref b] below meth c s.heap [] 0 0 (lw_Z below #[Value.ref b] s) (entryFrame m ([Value.ref b] : List Value).toArray 4) := by
  obtain ⟨hx, hb, hr, hml, hown, hts0, hX, hbl, hlocks, hgv⟩ := C0
  have hts : ∀ w ∈ wsL_law, w.before #[Value.ref b] s = true := fun w h => hts0 w (wsL_law_in w h)
  obtain ⟨dC, dI, cI, cZ, hK⟩ := law_K hts
  obtain ⟨ak, av, hE, hZ, hQ⟩ := law_text hts0 hgv
  have n1 : va_Nw (.methodLinkNest RX4 9 yX2_init RX4) s := va_Nw.of rfl (hts0 _ (List.mem_append_right _ (by decide +kernel)))
  have n2 : va_Nw (.methodLinkNest RX4 18 yX3_init RX4) s := va_Nw.of rfl (hts0 _ (List.mem_append_right _ (by decide +kernel)))
  have n3 : va_Nw (.methodLinkNest RX4 31 yX0_init RX4) s := va_Nw.of rfl (hts0 _ (List.mem_append_right _ (by decide +kernel)))
  have hl := lv_entry ([.ref b]) (n := 4) (Nat.le_of_ble_eq_true rfl)
  rw [lg_entry_eq]
  generalize (lg_sl ([.ref b]) ++ List.replicate (4 - (lg_sl ([.ref b])).length) Slot.unset).toArray = ls at hl ⊢
  have hl : lv_has ls 4 [(0, .ref b)] := hl
  exact law_new dC dI cI cZ ak av hx hb hml hown hts hX hbl (A := fun q => s.heap.size ≤ q) (Nat.not_le.mpr hbl) (fun _ h => h) hK hE hZ hQ hL hr hlocks (fun _ h => h) n1 n2 n3 ls hl
