/-! the text "cptme": what the class asks of it -/
abbrev BYT : List (List Int32) := [[99, 112, 116, 109, 101]]
def bc (j : Nat) : Int32 := ([99, 112, 116, 109, 101] : List Int32).getD j 0
abbrev xE (ak av : Nat → Nat) (B : Nat → Prop) (U : State) (H : Heap) : Prop := vk_S 1 [5] BYT ak av B U H
abbrev xZ (B : Nat → Prop) (U : State) (H : Heap) : Prop := va_Z "java/lang/String" "COMPACT_STRINGS" "Z" (.int (nI 1)) B U H
abbrev xQ (ak : Nat → Nat) (U : State) : Prop := vk_R RX2 34 "cptme" (ak 0) U
abbrev PJ (ak av : Nat → Nat) : State → Prop := fun U => xE ak av noF U U.heap ∧ xZ noF U U.heap
abbrev PRT (D : va_G) (cI cZ : ClassId) (ak av : Nat → Nat) (ws : va_W) : State → Prop := fun U => PR D cI cZ ws U ∧ xE ak av noF U U.heap ∧ xZ noF U U.heap ∧ xQ ak U
abbrev PWT (D : va_G) (cI cZ : ClassId) (sz : Nat) (ak av : Nat → Nat) (ws : va_W) : State → Prop := fun U => PW D cI cZ sz ws U ∧ xE ak av (va_A ws sz) U U.heap ∧ xZ (va_A ws sz) U U.heap ∧ xQ ak U
section XS
variable {s : State} {H : Heap} {locs : List Loc} {A B : Nat → Prop} {ak av : Nat → Nat} {D : va_G} {cI cZ : ClassId}
theorem xE.co (h : xE ak av A s H) : va_OF "java/lang/String" "coder" "B" (.int (nI 0)) (ak 0) A s H := (h.1 0 (by decide)).2.1
theorem xE.va (h : xE ak av A s H) : va_OF "java/lang/String" "value" "[B" (.ref (av 0)) (ak 0) A s H := (h.1 0 (by decide)).2.2.1
theorem xE.by (h : xE ak av A s H) : va_T .byte (av 0) 5 (fun j => .int (bc j)) A s H := (h.1 0 (by decide)).2.2.2
theorem xE.to (h : xE ak av A s s.heap) (hS : va_S A s.heap H locs) (hF : ∀ q, B q → A q) : xE ak av B s H := (vk_S.kept h hS.2.1).narrow hF
theorem xZ.to (h : xZ A s s.heap) (hS : va_S A s.heap H locs) (hF : ∀ q, B q → A q) : xZ B s H := (va_Z.kept h hS.2.1).narrow hF
theorem blindJ {av' : List Value} : FrameBlind (va_Pc av' (PJ ak av)) := fun a U g mk q => by
  obtain ⟨q0, qE, qZ⟩ := q
  exact ⟨q0, vk_S.moved (u := U) (U := U.calling g mk a) (Vm.Alike.refl U.vm) qE, va_Z.moved (u := U) (U := U.calling g mk a) (Vm.Alike.refl U.vm) qZ⟩
theorem blindT {ws : va_W} {av' : List Value} : FrameBlind (va_Pc av' (PRT D cI cZ ak av ws)) := fun a U g mk q => by
  obtain ⟨q0, ⟨qP, qK⟩, qE, qZ, qQ⟩ := q
  exact ⟨q0, ⟨qP, va_K.moved (u := U) (U := U.calling g mk a) (Vm.Alike.refl U.vm) qK⟩, vk_S.moved (u := U) (U := U.calling g mk a) (Vm.Alike.refl U.vm) qE, va_Z.moved (u := U) (U := U.calling g mk a) (Vm.Alike.refl U.vm) qZ, vk_R.same (u := U) rfl qQ⟩
theorem blindU {ws : va_W} {sz : Nat} {av' : List Value} : FrameBlind (va_Pc av' (PWT D cI cZ sz ak av ws)) := fun a U g mk q => by
  obtain ⟨q0, ⟨q1, qP, qK, qD⟩, qE, qZ, qQ⟩ := q
  exact ⟨q0, ⟨q1, qP, va_K.moved (u := U) (U := U.calling g mk a) (Vm.Alike.refl U.vm) qK, qD⟩, vk_S.moved (u := U) (U := U.calling g mk a) (Vm.Alike.refl U.vm) qE, va_Z.moved (u := U) (U := U.calling g mk a) (Vm.Alike.refl U.vm) qZ, vk_R.same (u := U) rfl qQ⟩
theorem preJV {As : List Value} (hE : xE ak av A s s.heap) (hZ : xZ A s s.heap) (hS : va_S A s.heap H locs) : PreV s H RJ0 (ak 0) (va_Pc (.ref (ak 0) :: As) (PJ ak av)) As :=
  ⟨blindJ, vk_recv hE (by decide) hS, fun U hU hW => ⟨rfl, vk_S.moved hW.alike (by rw [hU]; exact xE.to hE hS (fun _ h => h.elim)), va_Z.moved hW.alike (by rw [hU]; exact xZ.to hZ hS (fun _ h => h.elim))⟩⟩
theorem preJS {As : List Value} (hE : xE ak av A s s.heap) (hZ : xZ A s s.heap) (hS : va_S A s.heap H locs) : PreS s H (va_Pc As (PJ ak av)) As :=
  ⟨blindJ, fun U hU hW => ⟨rfl, vk_S.moved hW.alike (by rw [hU]; exact xE.to hE hS (fun _ h => h.elim)), va_Z.moved hW.alike (by rw [hU]; exact xZ.to hZ hS (fun _ h => h.elim))⟩⟩
theorem preTV {wc : va_W} {As : List Value} {b ci : Nat} {q : vw_C} {fs : List Value} (hK : va_K D vwCl (TYS cI cZ) s) (hP : va_P D vwCl wc H) (hc : vwCl[ci]? = some q) (he : wc[0]? = some (b, .inr (ci, fs))) (hE : xE ak av A s s.heap) (hZ : xZ A s s.heap) (hQ : xQ ak s) (hS : va_S A s.heap H locs) : PreV s H q.1 b (va_Pc (.ref b :: As) (PRT D cI cZ ak av wc)) As :=
  ⟨blindT, va_recv hK hP hc he, fun U hU hW => ⟨rfl, ⟨by rw [hU]; exact hP, va_K.moved hW.alike hK⟩, vk_S.moved hW.alike (by rw [hU]; exact xE.to hE hS (fun _ h => h.elim)), va_Z.moved hW.alike (by rw [hU]; exact xZ.to hZ hS (fun _ h => h.elim)), vk_R.warm hW hQ⟩⟩
theorem preUV {wc : va_W} {As : List Value} {b ci : Nat} {q : vw_C} {fs : List Value} {C : Nat → Prop} (hK : va_K D vwCl (TYS cI cZ) s) (hP : va_P D vwCl wc H) (hD : va_D C wc) (hc : vwCl[ci]? = some q) (he : wc[0]? = some (b, .inr (ci, fs))) (hE : xE ak av A s s.heap) (hZ : xZ A s s.heap) (hQ : xQ ak s) (hS : va_S A s.heap H locs) (hF : ∀ q, va_A wc H.size q → A q) : PreV s H q.1 b (va_Pc (.ref b :: As) (PWT D cI cZ H.size ak av wc)) As :=
  ⟨blindU, va_recv hK hP hc he, fun U hU hW => ⟨rfl, ⟨by rw [hU], by rw [hU]; exact hP, va_K.moved hW.alike hK, hD.weaken (fun _ _ _ _ => trivial)⟩, vk_S.moved hW.alike (by rw [hU]; exact xE.to hE hS hF), va_Z.moved hW.alike (by rw [hU]; exact xZ.to hZ hS hF), vk_R.warm hW hQ⟩⟩
end XS
abbrev GP (pg : Nat → Int32) : Prop := ∀ j9 : Nat, ∃ q9 : Nat, q9 < 127 ∧ pg j9 = nI q9
theorem i2b_nI {q : Nat} (h : q < 127) : (nI q).toInt8.toInt32 = nI q := (show ∀ x : Fin 127, (nI x.val).toInt8.toInt32 = nI x.val by decide +kernel) ⟨q, h⟩
theorem i2c_nI {q : Nat} (h : q < 127) : ((nI q).toUInt32 % 65536).toInt32 = nI q := (show ∀ x : Fin 127, ((nI x.val).toUInt32 % 65536).toInt32 = nI x.val by decide +kernel) ⟨q, h⟩
theorem kb_at {k : Nat} {x : Int32} (h : k < 5) (e : bc k = x) : nI k = kb x := by
  subst e
  exact (show ∀ i : Fin 5, nI i.val = kb (bc i.val) by decide +kernel) ⟨k, h⟩
theorem kb_no {x : Int32} (h : ∀ j9 : Nat, j9 < 5 → ¬ bc j9 = x) : -1 = kb x :=
  kb_6 (fun q => h 0 (by decide) q.symm) (fun q => h 1 (by decide) q.symm) (fun q => h 2 (by decide) q.symm) (fun q => h 3 (by decide) q.symm) (fun q => h 4 (by decide) q.symm)
theorem bc_s {k : Nat} {x : Int32} (h : ∀ j9 : Nat, j9 < k → ¬ bc j9 = x) (e : ¬ bc k = x) : ∀ j9 : Nat, j9 < k + 1 → ¬ bc j9 = x := fun j h9 => by
  rcases Nat.lt_or_ge j k with q | q
  · exact h j q
  · obtain rfl : j = k := by omega
    exact e
theorem kb_lt {x : Int32} (h : kb x < 0) : kb x = -1 := by
  unfold kb at h ⊢
  split at h
  · exact absurd h (by decide)
  split at h
  · exact absurd h (by decide)
  split at h
  · exact absurd h (by decide)
  split at h
  · exact absurd h (by decide)
  split at h
  · exact absurd h (by decide)
  · simp_all
theorem kb_ge {x : Int32} (h : ¬ kb x < 0) : ¬ kb x = -1 := fun q => h (by rw [q]; decide)
