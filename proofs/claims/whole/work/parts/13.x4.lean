set_option maxHeartbeats 4000000 in
set_option maxRecDepth 100000 in
/-- X0_keep -/
theorem kX0_keep (l : Launch) (dC : Nat → ClassId) (dI : Nat → Nat → Nat) (sz : Nat) (h0 a1 a2 : Nat) (cA cB : ClassId) (f g : Nat → Int32) (w h kw kh : Nat) : Met l yX0_keep wsX0_keep ({ frames := 1, cells := 0, slots := 0, locals := 64 }) (va_Pc [.ref h0] (fun U => U.heap.size = sz ∧ va_P (dC, dI) vwCm [(h0, .inr (0, [.ref a1, .ref a2, .int (nI w), .int (nI h), .int (nI kw), .int (nI kh)])), (a1, .inl (cA, 4096, .inl f)), (a2, .inl (cB, 4096, .inl g))] U.heap ∧ va_K (dC, dI) vwCm [(cA, .int), (cB, .int)] U ∧ va_D (fun _ => True) [(h0, .inr (0, [.ref a1, .ref a2, .int (nI w), .int (nI h), .int (nI kw), .int (nI kh)])), (a1, .inl (cA, 4096, .inl f)), (a2, .inl (cB, 4096, .inl g))])) (va_Qv (fun u : Nat → Int32 => cf_cp 4096 f u) (fun (u : Nat → Int32) (t : State) => va_P (dC, dI) vwCm [(h0, .inr (0, [.ref a1, .ref a2, .int (nI w), .int (nI h), .int (nI w), .int (nI h)])), (a1, .inl (cA, 4096, .inl f)), (a2, .inl (cB, 4096, .inl u))] t.heap ∧ va_K (dC, dI) vwCm [(cA, .int), (cB, .int)] t ∧ va_D (va_A [(h0, .inr (0, [.ref a1, .ref a2, .int (nI w), .int (nI h), .int (nI kw), .int (nI kh)])), (a1, .inl (cA, 4096, .inl f)), (a2, .inl (cB, 4096, .inl g))] sz) [(h0, .inr (0, [.ref a1, .ref a2, .int (nI w), .int (nI h), .int (nI w), .int (nI h)])), (a1, .inl (cA, 4096, .inl f)), (a2, .inl (cB, 4096, .inl u))]) (va_A [(h0, .inr (0, [.ref a1, .ref a2, .int (nI w), .int (nI h), .int (nI kw), .int (nI kh)])), (a1, .inl (cA, 4096, .inl f)), (a2, .inl (cB, 4096, .inl g))] sz)) 0 0 (va_A [(h0, .inr (0, [.ref a1, .ref a2, .int (nI w), .int (nI h), .int (nI kw), .int (nI kh)])), (a1, .inl (cA, 4096, .inl f)), (a2, .inl (cB, 4096, .inl g))] sz) := by
  refine Met.ofW (cc := cX0_keep) (maxL := 1) (ret := none) (by decide) rfl ?_
  intro p e s m args below meth c s₁ B hml hv
  obtain ⟨rfl, hsz, hP, hK, hD0⟩ := hv
  have hx := B.exec
  have hb := B.bytes
  have hr := B.returns
  have hts := atoms_spec (ws := wsX0_keep) B.pre
  have hown : s.vm.findClass RX0 = some m.cls := findClass_of_methodNamed B.named
  have hlocks := B.notSynchronized
  subst hsz
  have hD := hD0.self (sz := s.heap.size)
  generalize hAe : va_A [(h0, .inr (0, [.ref a1, .ref a2, .int (nI w), .int (nI h), .int (nI kw), .int (nI kh)])), (a1, .inl (cA, 4096, .inl f)), (a2, .inl (cB, 4096, .inl g))] s.heap.size = A at hD ⊢
  have hA : ∀ q : Nat, s.heap.size ≤ q → A q := fun q h => by rw [← hAe]; exact Or.inr h
  have hS : va_S A s.heap s.heap [] := va_S.rf
  have hP : va_P (dC, dI) vwCm [(h0, .inr (0, [.ref a1, .ref a2, .int (nI w), .int (nI h), .int (nI kw), .int (nI kh)])), (a1, .inl (cA, 4096, .inl f)), (a2, .inl (cB, 4096, .inl g))] s.heap := hP
  have hl := lv_entry ([.ref h0]) (n := 1) (Nat.le_of_ble_eq_true rfl)
  rw [lg_entry_eq]
  generalize (lg_sl ([.ref h0]) ++ List.replicate (1 - (lg_sl ([.ref h0])).length) Slot.unset).toArray = ls at hl ⊢
  have hl : lv_has ls 1 [(0, .ref h0)] := hl
  refine lv_aload_n hx hb dX0_keep_0 rfl (lv_at hl 0 rfl) ?_
  refine va_get (D := (dC, dI)) (ci := 0) (v := .ref a1) (C := RX0) (T := TX0) (N := 6) hx hb hts (by decide +kernel) hown hK hP 0 rfl rfl 0 (by decide) (hts (.fieldLink RX0 26 "CoefTurns" "cells" "[I") (by decide +kernel)) (fun _ h9 => h9) rfl dX0_keep_1 ?_
  refine lv_iconst (v := nI 0) hx hb dX0_keep_4 (by decide +kernel) ?_
  refine lv_aload_n hx hb dX0_keep_5 rfl (lv_at hl 0 rfl) ?_
  refine va_get (D := (dC, dI)) (ci := 0) (v := .ref a2) (C := RX0) (T := TX0) (N := 6) hx hb hts (by decide +kernel) hown hK hP 0 rfl rfl 1 (by decide) (hts (.fieldLink RX0 30 "CoefTurns" "keptCells" "[I") (by decide +kernel)) (fun _ h9 => h9) rfl dX0_keep_6 ?_
  refine lv_iconst (v := nI 0) hx hb dX0_keep_9 (by decide +kernel) ?_
  refine lv_sipush (v := nI 4096) hx hb dX0_keep_10 (by decide +kernel) ?_
  refine cf_copyi (D := (dC, dI)) hx hb (hml.trans hl.1.symm) hown (hts (.methodLink RX0 91 arraycopyName) (by decide +kernel)) (hts (.native arraycopyName) (by decide +kernel)) (hts (.static arraycopyName) (by decide +kernel)) (hts (.initialized "java/lang/System") (by decide +kernel)) hK hP hD hS 1 2 0 1 rfl rfl rfl rfl (by omega) (by omega) (by decide) (by decide) (Nat.le_of_ble_eq_true rfl) (Nat.le_of_ble_eq_true rfl) dX0_keep_13 (fun H locs hP hD hS => ?_)
  have hP : va_P (dC, dI) vwCm [(h0, .inr (0, [.ref a1, .ref a2, .int (nI w), .int (nI h), .int (nI kw), .int (nI kh)])), (a1, .inl (cA, 4096, .inl f)), (a2, .inl (cB, 4096, .inl (va_cpy f g 0 0 4096)))] H := hP
  have hD : va_D A [(h0, .inr (0, [.ref a1, .ref a2, .int (nI w), .int (nI h), .int (nI kw), .int (nI kh)])), (a1, .inl (cA, 4096, .inl f)), (a2, .inl (cB, 4096, .inl (va_cpy f g 0 0 4096)))] := hD
  refine lv_aload_n hx hb dX0_keep_16 rfl (lv_at hl 0 rfl) ?_
  refine lv_aload_n hx hb dX0_keep_17 rfl (lv_at hl 0 rfl) ?_
  refine va_get (D := (dC, dI)) (ci := 0) (v := .int (nI w)) (C := RX0) (T := TX0) (N := 6) hx hb hts (by decide +kernel) hown hK hP 0 rfl rfl 2 (by decide) (hts (.fieldLink RX0 13 "CoefTurns" "width" "I") (by decide +kernel)) (fun _ h9 => h9) rfl dX0_keep_18 ?_
  refine va_put (D := (dC, dI)) (ci := 0) (v := .int (nI w)) (ty := .int) (C := RX0) (T := TX0) (N := 6) hx hb hts (by decide +kernel) tyX0 tyX0_ok nmX0 hown hK hP hD hS 0 rfl rfl 4 (by decide) (hts (.fieldLink RX0 20 "CoefTurns" "keptWidth" "I") (by decide +kernel)) (fun _ h9 => h9) rfl (by decide +kernel) rfl rfl (Nat.le_of_ble_eq_true rfl) dX0_keep_21 (fun H locs hP hD hS => ?_)
  have hP : va_P (dC, dI) vwCm [(h0, .inr (0, [.ref a1, .ref a2, .int (nI w), .int (nI h), .int (nI w), .int (nI kh)])), (a1, .inl (cA, 4096, .inl f)), (a2, .inl (cB, 4096, .inl (va_cpy f g 0 0 4096)))] H := hP
  have hD : va_D A [(h0, .inr (0, [.ref a1, .ref a2, .int (nI w), .int (nI h), .int (nI w), .int (nI kh)])), (a1, .inl (cA, 4096, .inl f)), (a2, .inl (cB, 4096, .inl (va_cpy f g 0 0 4096)))] := hD
  refine lv_aload_n hx hb dX0_keep_24 rfl (lv_at hl 0 rfl) ?_
  refine lv_aload_n hx hb dX0_keep_25 rfl (lv_at hl 0 rfl) ?_
  refine va_get (D := (dC, dI)) (ci := 0) (v := .int (nI h)) (C := RX0) (T := TX0) (N := 6) hx hb hts (by decide +kernel) hown hK hP 0 rfl rfl 3 (by decide) (hts (.fieldLink RX0 17 "CoefTurns" "height" "I") (by decide +kernel)) (fun _ h9 => h9) rfl dX0_keep_26 ?_
  refine va_put (D := (dC, dI)) (ci := 0) (v := .int (nI h)) (ty := .int) (C := RX0) (T := TX0) (N := 6) hx hb hts (by decide +kernel) tyX0 tyX0_ok nmX0 hown hK hP hD hS 0 rfl rfl 5 (by decide) (hts (.fieldLink RX0 23 "CoefTurns" "keptHeight" "I") (by decide +kernel)) (fun _ h9 => h9) rfl (by decide +kernel) rfl rfl (Nat.le_of_ble_eq_true rfl) dX0_keep_29 (fun H locs hP hD hS => ?_)
  have hP : va_P (dC, dI) vwCm [(h0, .inr (0, [.ref a1, .ref a2, .int (nI w), .int (nI h), .int (nI w), .int (nI h)])), (a1, .inl (cA, 4096, .inl f)), (a2, .inl (cB, 4096, .inl (va_cpy f g 0 0 4096)))] H := hP
  have hD : va_D A [(h0, .inr (0, [.ref a1, .ref a2, .int (nI w), .int (nI h), .int (nI w), .int (nI h)])), (a1, .inl (cA, 4096, .inl f)), (a2, .inl (cB, 4096, .inl (va_cpy f g 0 0 4096)))] := hD
  have hP9 := hP.sub (ws' := [(h0, .inr (0, [.ref a1, .ref a2, .int (nI w), .int (nI h), .int (nI w), .int (nI h)])), (a1, .inl (cA, 4096, .inl f)), (a2, .inl (cB, 4096, .inl (va_cpy f g 0 0 4096)))]) [0, 1, 2] rfl
  have hD9 := hD.sub (ws' := [(h0, .inr (0, [.ref a1, .ref a2, .int (nI w), .int (nI h), .int (nI w), .int (nI h)])), (a1, .inl (cA, 4096, .inl f)), (a2, .inl (cB, 4096, .inl (va_cpy f g 0 0 4096)))]) [0, 1, 2] (by decide) rfl
  exact W.vret hx hb hr (fun t ht hW => ⟨⟨_, rfl, (fun k hk => pk_cpy_in (by omega) (by omega) |>.trans (by rw [Nat.sub_zero, Nat.zero_add])), by rw [ht]; exact hP9, va_K.moved hW.alike hK, hD9⟩, hS.F ht⟩) hS.2.2 dX0_keep_32
set_option maxHeartbeats 4000000 in
set_option maxRecDepth 100000 in
/-- X0_restore -/
theorem kX0_restore (l : Launch) (dC : Nat → ClassId) (dI : Nat → Nat → Nat) (sz : Nat) (h0 a1 a2 : Nat) (cA cB : ClassId) (f g : Nat → Int32) (w h kw kh : Nat) : Met l yX0_restore wsX0_restore ({ frames := 1, cells := 0, slots := 0, locals := 64 }) (va_Pc [.ref h0] (fun U => U.heap.size = sz ∧ va_P (dC, dI) vwCm [(h0, .inr (0, [.ref a1, .ref a2, .int (nI w), .int (nI h), .int (nI kw), .int (nI kh)])), (a1, .inl (cA, 4096, .inl f)), (a2, .inl (cB, 4096, .inl g))] U.heap ∧ va_K (dC, dI) vwCm [(cA, .int), (cB, .int)] U ∧ va_D (fun _ => True) [(h0, .inr (0, [.ref a1, .ref a2, .int (nI w), .int (nI h), .int (nI kw), .int (nI kh)])), (a1, .inl (cA, 4096, .inl f)), (a2, .inl (cB, 4096, .inl g))])) (va_Qv (fun u : Nat → Int32 => cf_cp 4096 g u) (fun (u : Nat → Int32) (t : State) => va_P (dC, dI) vwCm [(h0, .inr (0, [.ref a1, .ref a2, .int (nI kw), .int (nI kh), .int (nI kw), .int (nI kh)])), (a1, .inl (cA, 4096, .inl u)), (a2, .inl (cB, 4096, .inl g))] t.heap ∧ va_K (dC, dI) vwCm [(cA, .int), (cB, .int)] t ∧ va_D (va_A [(h0, .inr (0, [.ref a1, .ref a2, .int (nI w), .int (nI h), .int (nI kw), .int (nI kh)])), (a1, .inl (cA, 4096, .inl f)), (a2, .inl (cB, 4096, .inl g))] sz) [(h0, .inr (0, [.ref a1, .ref a2, .int (nI kw), .int (nI kh), .int (nI kw), .int (nI kh)])), (a1, .inl (cA, 4096, .inl u)), (a2, .inl (cB, 4096, .inl g))]) (va_A [(h0, .inr (0, [.ref a1, .ref a2, .int (nI w), .int (nI h), .int (nI kw), .int (nI kh)])), (a1, .inl (cA, 4096, .inl f)), (a2, .inl (cB, 4096, .inl g))] sz)) 0 0 (va_A [(h0, .inr (0, [.ref a1, .ref a2, .int (nI w), .int (nI h), .int (nI kw), .int (nI kh)])), (a1, .inl (cA, 4096, .inl f)), (a2, .inl (cB, 4096, .inl g))] sz) := by
  refine Met.ofW (cc := cX0_restore) (maxL := 1) (ret := none) (by decide) rfl ?_
  intro p e s m args below meth c s₁ B hml hv
  obtain ⟨rfl, hsz, hP, hK, hD0⟩ := hv
  have hx := B.exec
  have hb := B.bytes
  have hr := B.returns
  have hts := atoms_spec (ws := wsX0_restore) B.pre
  have hown : s.vm.findClass RX0 = some m.cls := findClass_of_methodNamed B.named
  have hlocks := B.notSynchronized
  subst hsz
  have hD := hD0.self (sz := s.heap.size)
  generalize hAe : va_A [(h0, .inr (0, [.ref a1, .ref a2, .int (nI w), .int (nI h), .int (nI kw), .int (nI kh)])), (a1, .inl (cA, 4096, .inl f)), (a2, .inl (cB, 4096, .inl g))] s.heap.size = A at hD ⊢
  have hA : ∀ q : Nat, s.heap.size ≤ q → A q := fun q h => by rw [← hAe]; exact Or.inr h
  have hS : va_S A s.heap s.heap [] := va_S.rf
  have hP : va_P (dC, dI) vwCm [(h0, .inr (0, [.ref a1, .ref a2, .int (nI w), .int (nI h), .int (nI kw), .int (nI kh)])), (a1, .inl (cA, 4096, .inl f)), (a2, .inl (cB, 4096, .inl g))] s.heap := hP
  have hl := lv_entry ([.ref h0]) (n := 1) (Nat.le_of_ble_eq_true rfl)
  rw [lg_entry_eq]
  generalize (lg_sl ([.ref h0]) ++ List.replicate (1 - (lg_sl ([.ref h0])).length) Slot.unset).toArray = ls at hl ⊢
  have hl : lv_has ls 1 [(0, .ref h0)] := hl
  refine lv_aload_n hx hb dX0_restore_0 rfl (lv_at hl 0 rfl) ?_
  refine va_get (D := (dC, dI)) (ci := 0) (v := .ref a2) (C := RX0) (T := TX0) (N := 6) hx hb hts (by decide +kernel) hown hK hP 0 rfl rfl 1 (by decide) (hts (.fieldLink RX0 30 "CoefTurns" "keptCells" "[I") (by decide +kernel)) (fun _ h9 => h9) rfl dX0_restore_1 ?_
  refine lv_iconst (v := nI 0) hx hb dX0_restore_4 (by decide +kernel) ?_
  refine lv_aload_n hx hb dX0_restore_5 rfl (lv_at hl 0 rfl) ?_
  refine va_get (D := (dC, dI)) (ci := 0) (v := .ref a1) (C := RX0) (T := TX0) (N := 6) hx hb hts (by decide +kernel) hown hK hP 0 rfl rfl 0 (by decide) (hts (.fieldLink RX0 26 "CoefTurns" "cells" "[I") (by decide +kernel)) (fun _ h9 => h9) rfl dX0_restore_6 ?_
  refine lv_iconst (v := nI 0) hx hb dX0_restore_9 (by decide +kernel) ?_
  refine lv_sipush (v := nI 4096) hx hb dX0_restore_10 (by decide +kernel) ?_
  refine cf_copyi (D := (dC, dI)) hx hb (hml.trans hl.1.symm) hown (hts (.methodLink RX0 91 arraycopyName) (by decide +kernel)) (hts (.native arraycopyName) (by decide +kernel)) (hts (.static arraycopyName) (by decide +kernel)) (hts (.initialized "java/lang/System") (by decide +kernel)) hK hP hD hS 2 1 1 0 rfl rfl rfl rfl (by omega) (by omega) (by decide) (by decide) (Nat.le_of_ble_eq_true rfl) (Nat.le_of_ble_eq_true rfl) dX0_restore_13 (fun H locs hP hD hS => ?_)
  have hP : va_P (dC, dI) vwCm [(h0, .inr (0, [.ref a1, .ref a2, .int (nI w), .int (nI h), .int (nI kw), .int (nI kh)])), (a1, .inl (cA, 4096, .inl (va_cpy g f 0 0 4096))), (a2, .inl (cB, 4096, .inl g))] H := hP
  have hD : va_D A [(h0, .inr (0, [.ref a1, .ref a2, .int (nI w), .int (nI h), .int (nI kw), .int (nI kh)])), (a1, .inl (cA, 4096, .inl (va_cpy g f 0 0 4096))), (a2, .inl (cB, 4096, .inl g))] := hD
  refine lv_aload_n hx hb dX0_restore_16 rfl (lv_at hl 0 rfl) ?_
  refine lv_aload_n hx hb dX0_restore_17 rfl (lv_at hl 0 rfl) ?_
  refine va_get (D := (dC, dI)) (ci := 0) (v := .int (nI kw)) (C := RX0) (T := TX0) (N := 6) hx hb hts (by decide +kernel) hown hK hP 0 rfl rfl 4 (by decide) (hts (.fieldLink RX0 20 "CoefTurns" "keptWidth" "I") (by decide +kernel)) (fun _ h9 => h9) rfl dX0_restore_18 ?_
  refine va_put (D := (dC, dI)) (ci := 0) (v := .int (nI kw)) (ty := .int) (C := RX0) (T := TX0) (N := 6) hx hb hts (by decide +kernel) tyX0 tyX0_ok nmX0 hown hK hP hD hS 0 rfl rfl 2 (by decide) (hts (.fieldLink RX0 13 "CoefTurns" "width" "I") (by decide +kernel)) (fun _ h9 => h9) rfl (by decide +kernel) rfl rfl (Nat.le_of_ble_eq_true rfl) dX0_restore_21 (fun H locs hP hD hS => ?_)
  have hP : va_P (dC, dI) vwCm [(h0, .inr (0, [.ref a1, .ref a2, .int (nI kw), .int (nI h), .int (nI kw), .int (nI kh)])), (a1, .inl (cA, 4096, .inl (va_cpy g f 0 0 4096))), (a2, .inl (cB, 4096, .inl g))] H := hP
  have hD : va_D A [(h0, .inr (0, [.ref a1, .ref a2, .int (nI kw), .int (nI h), .int (nI kw), .int (nI kh)])), (a1, .inl (cA, 4096, .inl (va_cpy g f 0 0 4096))), (a2, .inl (cB, 4096, .inl g))] := hD
  refine lv_aload_n hx hb dX0_restore_24 rfl (lv_at hl 0 rfl) ?_
  refine lv_aload_n hx hb dX0_restore_25 rfl (lv_at hl 0 rfl) ?_
  refine va_get (D := (dC, dI)) (ci := 0) (v := .int (nI kh)) (C := RX0) (T := TX0) (N := 6) hx hb hts (by decide +kernel) hown hK hP 0 rfl rfl 5 (by decide) (hts (.fieldLink RX0 23 "CoefTurns" "keptHeight" "I") (by decide +kernel)) (fun _ h9 => h9) rfl dX0_restore_26 ?_
  refine va_put (D := (dC, dI)) (ci := 0) (v := .int (nI kh)) (ty := .int) (C := RX0) (T := TX0) (N := 6) hx hb hts (by decide +kernel) tyX0 tyX0_ok nmX0 hown hK hP hD hS 0 rfl rfl 3 (by decide) (hts (.fieldLink RX0 17 "CoefTurns" "height" "I") (by decide +kernel)) (fun _ h9 => h9) rfl (by decide +kernel) rfl rfl (Nat.le_of_ble_eq_true rfl) dX0_restore_29 (fun H locs hP hD hS => ?_)
  have hP : va_P (dC, dI) vwCm [(h0, .inr (0, [.ref a1, .ref a2, .int (nI kw), .int (nI kh), .int (nI kw), .int (nI kh)])), (a1, .inl (cA, 4096, .inl (va_cpy g f 0 0 4096))), (a2, .inl (cB, 4096, .inl g))] H := hP
  have hD : va_D A [(h0, .inr (0, [.ref a1, .ref a2, .int (nI kw), .int (nI kh), .int (nI kw), .int (nI kh)])), (a1, .inl (cA, 4096, .inl (va_cpy g f 0 0 4096))), (a2, .inl (cB, 4096, .inl g))] := hD
  have hP9 := hP.sub (ws' := [(h0, .inr (0, [.ref a1, .ref a2, .int (nI kw), .int (nI kh), .int (nI kw), .int (nI kh)])), (a1, .inl (cA, 4096, .inl (va_cpy g f 0 0 4096))), (a2, .inl (cB, 4096, .inl g))]) [0, 1, 2] rfl
  have hD9 := hD.sub (ws' := [(h0, .inr (0, [.ref a1, .ref a2, .int (nI kw), .int (nI kh), .int (nI kw), .int (nI kh)])), (a1, .inl (cA, 4096, .inl (va_cpy g f 0 0 4096))), (a2, .inl (cB, 4096, .inl g))]) [0, 1, 2] (by decide) rfl
  exact W.vret hx hb hr (fun t ht hW => ⟨⟨_, rfl, (fun k hk => pk_cpy_in (by omega) (by omega) |>.trans (by rw [Nat.sub_zero, Nat.zero_add])), by rw [ht]; exact hP9, va_K.moved hW.alike hK, hD9⟩, hS.F ht⟩) hS.2.2 dX0_restore_32
set_option maxHeartbeats 4000000 in
set_option maxRecDepth 100000 in
/-- X0_differ -/
theorem kX0_differ (l : Launch) (dC : Nat → ClassId) (dI : Nat → Nat → Nat) (h0 a1 a2 : Nat) (cA cB : ClassId) (f g : Nat → Int32) (w h kw kh : Nat) (hw : w ≤ 8) (hh : h ≤ 8) (hkw : kw ≤ 8) (hkh : kh ≤ 8) : Met l yX0_differ wsX0_differ ({ frames := 1, cells := 0, slots := 0, locals := 21 }) (va_Pc [.ref h0] (fun U => va_P (dC, dI) vwCm [(h0, .inr (0, [.ref a1, .ref a2, .int (nI w), .int (nI h), .int (nI kw), .int (nI kh)])), (a1, .inl (cA, 4096, .inl f)), (a2, .inl (cB, 4096, .inl g))] U.heap ∧ va_K (dC, dI) vwCm [(cA, .int), (cB, .int)] U)) (vp_Si (fun r : Int32 => r = cf_dif w h kw kh (cf_V f) (cf_V g))) 0 0 (fun _ => False) := by
  refine Met.ofW (cc := cX0_differ) (maxL := 5) (ret := (some .int)) (by decide) rfl ?_
  intro p e s m args below meth c s₁ B hml hv
  obtain ⟨rfl, hP, hK⟩ := hv
  have hx := B.exec
  have hb := B.bytes
  have hr := B.returns
  have hts := atoms_spec (ws := wsX0_differ) B.pre
  have hown : s.vm.findClass RX0 = some m.cls := findClass_of_methodNamed B.named
  have hlocks := B.notSynchronized
  have hl := lv_entry ([.ref h0]) (n := 5) (Nat.le_of_ble_eq_true rfl)
  rw [lg_entry_eq]
  generalize (lg_sl ([.ref h0]) ++ List.replicate (5 - (lg_sl ([.ref h0])).length) Slot.unset).toArray = ls at hl ⊢
  have hl : lv_has ls 5 [(0, .ref h0)] := hl
  refine lv_aload_n hx hb dX0_differ_0 rfl (lv_at hl 0 rfl) ?_
  refine va_get (D := (dC, dI)) (ci := 0) (v := .int (nI w)) (C := RX0) (T := TX0) (N := 6) hx hb hts (by decide +kernel) hown hK hP 0 rfl rfl 2 (by decide) (hts (.fieldLink RX0 13 "CoefTurns" "width" "I") (by decide +kernel)) (fun _ h9 => h9) rfl dX0_differ_1 ?_
  refine lv_aload_n hx hb dX0_differ_4 rfl (lv_at hl 0 rfl) ?_
  refine va_get (D := (dC, dI)) (ci := 0) (v := .int (nI kw)) (C := RX0) (T := TX0) (N := 6) hx hb hts (by decide +kernel) hown hK hP 0 rfl rfl 4 (by decide) (hts (.fieldLink RX0 20 "CoefTurns" "keptWidth" "I") (by decide +kernel)) (fun _ h9 => h9) rfl dX0_differ_5 ?_
  refine lv_icmp_ne (tgt := 22) hx hb dX0_differ_8 (by decide) (fun c8 => ?_) (fun c8 => ?_)
  · skip
    have c8 := mt (nI_eq (a := w) (b := kw) (by omega) (by omega)).mpr c8
    refine lv_iconst (v := (-1)) hx hb dX0_differ_22 (by decide +kernel) ?_
    exact W.iret hx hb hr (fun t ht hW => ⟨_, rfl, (by unfold cf_dif; rw [if_neg (by omega)]), ht⟩) (fun q h => by cases h) dX0_differ_23
  · skip
    have c8 := (nI_eq (a := w) (b := kw) (by omega) (by omega)).mp c8
    refine lv_aload_n hx hb dX0_differ_11 rfl (lv_at hl 0 rfl) ?_
    refine va_get (D := (dC, dI)) (ci := 0) (v := .int (nI h)) (C := RX0) (T := TX0) (N := 6) hx hb hts (by decide +kernel) hown hK hP 0 rfl rfl 3 (by decide) (hts (.fieldLink RX0 17 "CoefTurns" "height" "I") (by decide +kernel)) (fun _ h9 => h9) rfl dX0_differ_12 ?_
    refine lv_aload_n hx hb dX0_differ_15 rfl (lv_at hl 0 rfl) ?_
    refine va_get (D := (dC, dI)) (ci := 0) (v := .int (nI kh)) (C := RX0) (T := TX0) (N := 6) hx hb hts (by decide +kernel) hown hK hP 0 rfl rfl 5 (by decide) (hts (.fieldLink RX0 23 "CoefTurns" "keptHeight" "I") (by decide +kernel)) (fun _ h9 => h9) rfl dX0_differ_16 ?_
    refine lv_icmp_eq (tgt := 24) hx hb dX0_differ_19 (by decide) (fun c19 => ?_) (fun c19 => ?_)
    · skip
      have c19 := (nI_eq (a := h) (b := kh) (by omega) (by omega)).mp c19
      refine lv_iconst (v := nI 0) hx hb dX0_differ_24 (by decide +kernel) ?_
      refine lv_istore_n (lv' := [(1, .int (nI 0)), (0, .ref h0)]) hx hb dX0_differ_25 rfl hl (by decide) rfl (fun ls hl => ?_)
      refine lv_iconst (v := nI 0) hx hb dX0_differ_26 (by decide +kernel) ?_
      refine lv_istore_n (lv' := [(2, .int (nI 0)), (1, .int (nI 0)), (0, .ref h0)]) hx hb dX0_differ_27 rfl hl (by decide) rfl (fun ls hl => ?_)
      have lp28 : ∀ (n28 : Nat) (y0 : Nat) (n0 : Int32), y0 ≤ h → h < y0 + n28 → n0 = cf_lin (fun (a : Int32) (k : Nat) => if f k = g k then a else a + 1) w y0 0 → ∀ (ls : Array Slot), lv_has ls 5 [(0, .ref h0), (1, .int n0), (2, .int (nI y0))] → W p l e (headSpec wsX0_differ ({ frames := 1, cells := 0, slots := 0, locals := 21 })).room s m ([.ref h0] : List Value).toArray below meth c s.heap [] 0 0 (MQ below (vp_Si (fun r : Int32 => r = cf_dif w h kw kh (cf_V f) (cf_V g))) ([.ref h0] : List Value).toArray s 0 0 (fun _ => False)) (F0 m 28 ls []) := by
        intro n28
        induction n28 with
        | zero => intro y0 n0 h1 h2; exact absurd h2 (by omega)
        | succ n28 ih28 =>
          intro y0 n0 hk28 hn28 hI ls hl
          refine lv_iload_n hx hb dX0_differ_28 rfl (lv_at hl 2 rfl) ?_
          refine lv_aload_n hx hb dX0_differ_29 rfl (lv_at hl 0 rfl) ?_
          refine va_get (D := (dC, dI)) (ci := 0) (v := .int (nI h)) (C := RX0) (T := TX0) (N := 6) hx hb hts (by decide +kernel) hown hK hP 0 rfl rfl 3 (by decide) (hts (.fieldLink RX0 17 "CoefTurns" "height" "I") (by decide +kernel)) (fun _ h9 => h9) rfl dX0_differ_30 ?_
          refine lv_icmp_ge (tgt := 90) hx hb dX0_differ_33 (by decide) (fun c33 => ?_) (fun c33 => ?_)
          · skip
            have c33 := (nI_leI (a := h) (b := y0) (by omega) (by omega)).mp c33
            refine lv_iload_n hx hb dX0_differ_90 rfl (lv_at hl 1 rfl) ?_
            exact W.iret hx hb hr (fun t ht hW => ⟨_, rfl, (by have e : y0 = h := (by omega); rw [hI, e, cf_lin_e]; unfold cf_dif; rw [if_pos ⟨by omega, by omega⟩]; rfl), ht⟩) (fun q h => by cases h) dX0_differ_91
          · skip
            have c33 := mt (nI_leI (a := h) (b := y0) (by omega) (by omega)).mpr c33
            refine lv_aload_n hx hb dX0_differ_36 rfl (lv_at hl 0 rfl) ?_
            refine va_get (D := (dC, dI)) (ci := 0) (v := .int (nI w)) (C := RX0) (T := TX0) (N := 6) hx hb hts (by decide +kernel) hown hK hP 0 rfl rfl 2 (by decide) (hts (.fieldLink RX0 13 "CoefTurns" "width" "I") (by decide +kernel)) (fun _ h9 => h9) rfl dX0_differ_37 ?_
            refine lv_iload_n hx hb dX0_differ_40 rfl (lv_at hl 2 rfl) ?_
            refine vp_callSi (W.runS (As := [.int (nI w), .int (nI y0)]) (rest := []) ⟨hx, hb, hml, hown, hts⟩ (kX0_blockStart l w y0) (va_cwS 2 hts gX0_differ_X0_blockStart rfl rfl rfl (by decide +kernel) ⟨Nat.le_of_ble_eq_true rfl, Nat.le_of_ble_eq_true rfl⟩) ⟨fun a U g mk q => q, fun U hU hW => ⟨rfl, trivial⟩⟩ rfl rfl hl.1 rfl (lv_room (Nat.le_of_ble_eq_true rfl)) dX0_differ_41 ⟨Nat.le_of_ble_eq_true rfl, Nat.le_of_ble_eq_true rfl⟩) (fun r41 w41 => ?_)
            subst w41
            refine lv_istore_n (lv' := [(3, .int (nI (64 * (8 * y0 + w)))), (0, .ref h0), (1, .int n0), (2, .int (nI y0))]) hx hb dX0_differ_44 rfl hl (by decide) rfl (fun ls hl => ?_)
            refine lv_iconst (v := nI 0) hx hb dX0_differ_45 (by decide +kernel) ?_
            refine lv_iload_n hx hb dX0_differ_46 rfl (lv_at hl 3 rfl) ?_
            refine vp_callSi (W.runS (As := [.int (nI 0), .int (nI y0)]) (rest := []) ⟨hx, hb, hml, hown, hts⟩ (kX0_blockStart l 0 y0) (va_cwS 2 hts gX0_differ_X0_blockStart rfl rfl rfl (by decide +kernel) ⟨Nat.le_of_ble_eq_true rfl, Nat.le_of_ble_eq_true rfl⟩) ⟨fun a U g mk q => q, fun U hU hW => ⟨rfl, trivial⟩⟩ rfl rfl hl.1 rfl (lv_room (Nat.le_of_ble_eq_true rfl)) dX0_differ_47 ⟨Nat.le_of_ble_eq_true rfl, Nat.le_of_ble_eq_true rfl⟩) (fun r47 w47 => ?_)
            subst w47
            refine lv_istore (lv' := [(4, .int (nI (64 * (8 * y0 + 0)))), (3, .int (nI (64 * (8 * y0 + w)))), (0, .ref h0), (1, .int n0), (2, .int (nI y0))]) hx hb dX0_differ_50 hl (by decide) rfl (fun ls hl => ?_)
            have lp52 : ∀ (n52 : Nat) (k : Nat) (n1 : Int32), k ≤ 64 * (8 * y0 + w) → 64 * (8 * y0 + w) < k + n52 → n1 = cf_row (fun (a : Int32) (k : Nat) => if f k = g k then a else a + 1) y0 (k - 512 * y0) (cf_lin (fun (a : Int32) (k : Nat) => if f k = g k then a else a + 1) w y0 0) → 512 * y0 ≤ k → ∀ (ls : Array Slot), lv_has ls 5 [(0, .ref h0), (1, .int n1), (2, .int (nI y0)), (3, .int (nI (64 * (8 * y0 + w)))), (4, .int (nI k))] → W p l e (headSpec wsX0_differ ({ frames := 1, cells := 0, slots := 0, locals := 21 })).room s m ([.ref h0] : List Value).toArray below meth c s.heap [] 0 0 (MQ below (vp_Si (fun r : Int32 => r = cf_dif w h kw kh (cf_V f) (cf_V g))) ([.ref h0] : List Value).toArray s 0 0 (fun _ => False)) (F0 m 52 ls []) := by
              intro n52
              induction n52 with
              | zero => intro k n1 h1 h2; exact absurd h2 (by omega)
              | succ n52 ih52 =>
                intro k n1 hk52 hn52 hI1 hk1 ls hl
                refine lv_iload hx hb dX0_differ_52 (lv_at hl 4 rfl) ?_
                refine lv_iload_n hx hb dX0_differ_54 rfl (lv_at hl 3 rfl) ?_
                refine lv_icmp_ge (tgt := 84) hx hb dX0_differ_55 (by decide) (fun c55 => ?_) (fun c55 => ?_)
                · skip
                  have c55 := (nI_leI (a := 64 * (8 * y0 + w)) (b := k) (by omega) (by omega)).mp c55
                  refine lv_iinc (v := nI (y0 + 1)) (lv' := [(2, .int (nI (y0 + 1))), (0, .ref h0), (1, .int n1), (3, .int (nI (64 * (8 * y0 + w)))), (4, .int (nI k))]) hx hb dX0_differ_84 hl (k := 2) rfl (by rw [← nI_add]; rfl) (by decide) rfl (fun ls hl => ?_)
                  refine lv_goto (tgt := 28) hx hb dX0_differ_87 (by decide) ?_
                  exact ih28 (y0 + 1) n1 (by omega) (by omega) (by rw [hI1]; exact cf_row_e (by omega)) ls (lv_sub hl [1, 2, 0] rfl)
                · skip
                  have c55 := mt (nI_leI (a := 64 * (8 * y0 + w)) (b := k) (by omega) (by omega)).mpr c55
                  refine lv_aload_n hx hb dX0_differ_58 rfl (lv_at hl 0 rfl) ?_
                  refine va_get (D := (dC, dI)) (ci := 0) (v := .ref a1) (C := RX0) (T := TX0) (N := 6) hx hb hts (by decide +kernel) hown hK hP 0 rfl rfl 0 (by decide) (hts (.fieldLink RX0 26 "CoefTurns" "cells" "[I") (by decide +kernel)) (fun _ h9 => h9) rfl dX0_differ_59 ?_
                  refine lv_iload hx hb dX0_differ_62 (lv_at hl 4 rfl) ?_
                  refine cf_iald (D := (dC, dI)) hx hb hK hP 1 0 rfl rfl (k := k) (by omega) (by decide) dX0_differ_64 ?_
                  refine lv_aload_n hx hb dX0_differ_65 rfl (lv_at hl 0 rfl) ?_
                  refine va_get (D := (dC, dI)) (ci := 0) (v := .ref a2) (C := RX0) (T := TX0) (N := 6) hx hb hts (by decide +kernel) hown hK hP 0 rfl rfl 1 (by decide) (hts (.fieldLink RX0 30 "CoefTurns" "keptCells" "[I") (by decide +kernel)) (fun _ h9 => h9) rfl dX0_differ_66 ?_
                  refine lv_iload hx hb dX0_differ_69 (lv_at hl 4 rfl) ?_
                  refine cf_iald (D := (dC, dI)) hx hb hK hP 2 1 rfl rfl (k := k) (by omega) (by decide) dX0_differ_71 ?_
                  refine lv_icmp_eq (tgt := 78) hx hb dX0_differ_72 (by decide) (fun c72 => ?_) (fun c72 => ?_)
                  · skip
                    refine lv_iinc (v := nI (k + 1)) (lv' := [(4, .int (nI (k + 1))), (0, .ref h0), (1, .int n1), (2, .int (nI y0)), (3, .int (nI (64 * (8 * y0 + w))))]) hx hb dX0_differ_78 hl (k := 4) rfl (by rw [← nI_add]; rfl) (by decide) rfl (fun ls hl => ?_)
                    refine lv_goto (tgt := 52) hx hb dX0_differ_81 (by decide) ?_
                    exact ih52 (k + 1) n1 (by omega) (by omega) (by rw [cf_row_s hk1, ← hI1]; first | rw [if_pos c72] | (rw [if_neg c72])) (by omega) ls (lv_sub hl [1, 2, 3, 4, 0] rfl)
                  · skip
                    refine lv_iinc (v := n1 + 1) (lv' := [(1, .int (n1 + 1)), (0, .ref h0), (2, .int (nI y0)), (3, .int (nI (64 * (8 * y0 + w)))), (4, .int (nI k))]) hx hb dX0_differ_75 hl (k := 1) rfl rfl (by decide) rfl (fun ls hl => ?_)
                    refine lv_iinc (v := nI (k + 1)) (lv' := [(4, .int (nI (k + 1))), (1, .int (n1 + 1)), (0, .ref h0), (2, .int (nI y0)), (3, .int (nI (64 * (8 * y0 + w))))]) hx hb dX0_differ_78 hl (k := 4) rfl (by rw [← nI_add]; rfl) (by decide) rfl (fun ls hl => ?_)
                    refine lv_goto (tgt := 52) hx hb dX0_differ_81 (by decide) ?_
                    exact ih52 (k + 1) (n1 + 1) (by omega) (by omega) (by rw [cf_row_s hk1, ← hI1]; first | rw [if_pos c72] | (rw [if_neg c72])) (by omega) ls (lv_sub hl [2, 1, 3, 4, 0] rfl)
            exact lp52 (64 * (8 * y0 + w) + 1) (64 * (8 * y0 + 0)) n0 (by omega) (by omega) (by rw [cf_row_0 (by omega)]; exact hI) (by omega) ls (lv_sub hl [2, 3, 4, 1, 0] rfl)
      exact lp28 (h + 1) 0 (nI 0) (by omega) (by omega) rfl ls (lv_sub hl [2, 1, 0] rfl)
    · skip
      have c19 := mt (nI_eq (a := h) (b := kh) (by omega) (by omega)).mpr c19
      refine lv_iconst (v := (-1)) hx hb dX0_differ_22 (by decide +kernel) ?_
      exact W.iret hx hb hr (fun t ht hW => ⟨_, rfl, (by unfold cf_dif; rw [if_neg (by omega)]), ht⟩) (fun q h => by cases h) dX0_differ_23
set_option maxHeartbeats 4000000 in
set_option maxRecDepth 100000 in
/-- X0_countNotZero -/
theorem kX0_countNotZero (l : Launch) (dC : Nat → ClassId) (dI : Nat → Nat → Nat) (h0 a1 a2 : Nat) (cA cB : ClassId) (f g : Nat → Int32) (w h kw kh : Nat) (hw : w ≤ 8) (hh : h ≤ 8) : Met l yX0_countNotZero wsX0_countNotZero ({ frames := 1, cells := 0, slots := 0, locals := 21 }) (va_Pc [.ref h0] (fun U => va_P (dC, dI) vwCm [(h0, .inr (0, [.ref a1, .ref a2, .int (nI w), .int (nI h), .int (nI kw), .int (nI kh)])), (a1, .inl (cA, 4096, .inl f)), (a2, .inl (cB, 4096, .inl g))] U.heap ∧ va_K (dC, dI) vwCm [(cA, .int), (cB, .int)] U)) (vp_Si (fun r : Int32 => r = cf_nz w h (cf_V f))) 0 0 (fun _ => False) := by
  refine Met.ofW (cc := cX0_countNotZero) (maxL := 5) (ret := (some .int)) (by decide) rfl ?_
  intro p e s m args below meth c s₁ B hml hv
  obtain ⟨rfl, hP, hK⟩ := hv
  have hx := B.exec
  have hb := B.bytes
  have hr := B.returns
  have hts := atoms_spec (ws := wsX0_countNotZero) B.pre
  have hown : s.vm.findClass RX0 = some m.cls := findClass_of_methodNamed B.named
  have hlocks := B.notSynchronized
  have hl := lv_entry ([.ref h0]) (n := 5) (Nat.le_of_ble_eq_true rfl)
  rw [lg_entry_eq]
  generalize (lg_sl ([.ref h0]) ++ List.replicate (5 - (lg_sl ([.ref h0])).length) Slot.unset).toArray = ls at hl ⊢
  have hl : lv_has ls 5 [(0, .ref h0)] := hl
  refine lv_iconst (v := nI 0) hx hb dX0_countNotZero_0 (by decide +kernel) ?_
  refine lv_istore_n (lv' := [(1, .int (nI 0)), (0, .ref h0)]) hx hb dX0_countNotZero_1 rfl hl (by decide) rfl (fun ls hl => ?_)
  refine lv_iconst (v := nI 0) hx hb dX0_countNotZero_2 (by decide +kernel) ?_
  refine lv_istore_n (lv' := [(2, .int (nI 0)), (1, .int (nI 0)), (0, .ref h0)]) hx hb dX0_countNotZero_3 rfl hl (by decide) rfl (fun ls hl => ?_)
  have lp4 : ∀ (n4 : Nat) (y0 : Nat) (n0 : Int32), y0 ≤ h → h < y0 + n4 → n0 = cf_lin (fun (a : Int32) (k : Nat) => if f k = 0 then a else a + 1) w y0 0 → ∀ (ls : Array Slot), lv_has ls 5 [(0, .ref h0), (1, .int n0), (2, .int (nI y0))] → W p l e (headSpec wsX0_countNotZero ({ frames := 1, cells := 0, slots := 0, locals := 21 })).room s m ([.ref h0] : List Value).toArray below meth c s.heap [] 0 0 (MQ below (vp_Si (fun r : Int32 => r = cf_nz w h (cf_V f))) ([.ref h0] : List Value).toArray s 0 0 (fun _ => False)) (F0 m 4 ls []) := by
    intro n4
    induction n4 with
    | zero => intro y0 n0 h1 h2; exact absurd h2 (by omega)
    | succ n4 ih4 =>
      intro y0 n0 hk4 hn4 hI ls hl
      refine lv_iload_n hx hb dX0_countNotZero_4 rfl (lv_at hl 2 rfl) ?_
      refine lv_aload_n hx hb dX0_countNotZero_5 rfl (lv_at hl 0 rfl) ?_
      refine va_get (D := (dC, dI)) (ci := 0) (v := .int (nI h)) (C := RX0) (T := TX0) (N := 6) hx hb hts (by decide +kernel) hown hK hP 0 rfl rfl 3 (by decide) (hts (.fieldLink RX0 17 "CoefTurns" "height" "I") (by decide +kernel)) (fun _ h9 => h9) rfl dX0_countNotZero_6 ?_
      refine lv_icmp_ge (tgt := 59) hx hb dX0_countNotZero_9 (by decide) (fun c9 => ?_) (fun c9 => ?_)
      · skip
        have c9 := (nI_leI (a := h) (b := y0) (by omega) (by omega)).mp c9
        refine lv_iload_n hx hb dX0_countNotZero_59 rfl (lv_at hl 1 rfl) ?_
        exact W.iret hx hb hr (fun t ht hW => ⟨_, rfl, (by have e : y0 = h := (by omega); rw [hI, e, cf_lin_e]; rfl), ht⟩) (fun q h => by cases h) dX0_countNotZero_60
      · skip
        have c9 := mt (nI_leI (a := h) (b := y0) (by omega) (by omega)).mpr c9
        refine lv_aload_n hx hb dX0_countNotZero_12 rfl (lv_at hl 0 rfl) ?_
        refine va_get (D := (dC, dI)) (ci := 0) (v := .int (nI w)) (C := RX0) (T := TX0) (N := 6) hx hb hts (by decide +kernel) hown hK hP 0 rfl rfl 2 (by decide) (hts (.fieldLink RX0 13 "CoefTurns" "width" "I") (by decide +kernel)) (fun _ h9 => h9) rfl dX0_countNotZero_13 ?_
        refine lv_iload_n hx hb dX0_countNotZero_16 rfl (lv_at hl 2 rfl) ?_
        refine vp_callSi (W.runS (As := [.int (nI w), .int (nI y0)]) (rest := []) ⟨hx, hb, hml, hown, hts⟩ (kX0_blockStart l w y0) (va_cwS 2 hts gX0_countNotZero_X0_blockStart rfl rfl rfl (by decide +kernel) ⟨Nat.le_of_ble_eq_true rfl, Nat.le_of_ble_eq_true rfl⟩) ⟨fun a U g mk q => q, fun U hU hW => ⟨rfl, trivial⟩⟩ rfl rfl hl.1 rfl (lv_room (Nat.le_of_ble_eq_true rfl)) dX0_countNotZero_17 ⟨Nat.le_of_ble_eq_true rfl, Nat.le_of_ble_eq_true rfl⟩) (fun r17 w17 => ?_)
        subst w17
        refine lv_istore_n (lv' := [(3, .int (nI (64 * (8 * y0 + w)))), (0, .ref h0), (1, .int n0), (2, .int (nI y0))]) hx hb dX0_countNotZero_20 rfl hl (by decide) rfl (fun ls hl => ?_)
        refine lv_iconst (v := nI 0) hx hb dX0_countNotZero_21 (by decide +kernel) ?_
        refine lv_iload_n hx hb dX0_countNotZero_22 rfl (lv_at hl 3 rfl) ?_
        refine vp_callSi (W.runS (As := [.int (nI 0), .int (nI y0)]) (rest := []) ⟨hx, hb, hml, hown, hts⟩ (kX0_blockStart l 0 y0) (va_cwS 2 hts gX0_countNotZero_X0_blockStart rfl rfl rfl (by decide +kernel) ⟨Nat.le_of_ble_eq_true rfl, Nat.le_of_ble_eq_true rfl⟩) ⟨fun a U g mk q => q, fun U hU hW => ⟨rfl, trivial⟩⟩ rfl rfl hl.1 rfl (lv_room (Nat.le_of_ble_eq_true rfl)) dX0_countNotZero_23 ⟨Nat.le_of_ble_eq_true rfl, Nat.le_of_ble_eq_true rfl⟩) (fun r23 w23 => ?_)
        subst w23
        refine lv_istore (lv' := [(4, .int (nI (64 * (8 * y0 + 0)))), (3, .int (nI (64 * (8 * y0 + w)))), (0, .ref h0), (1, .int n0), (2, .int (nI y0))]) hx hb dX0_countNotZero_26 hl (by decide) rfl (fun ls hl => ?_)
        have lp28 : ∀ (n28 : Nat) (k : Nat) (n1 : Int32), k ≤ 64 * (8 * y0 + w) → 64 * (8 * y0 + w) < k + n28 → n1 = cf_row (fun (a : Int32) (k : Nat) => if f k = 0 then a else a + 1) y0 (k - 512 * y0) (cf_lin (fun (a : Int32) (k : Nat) => if f k = 0 then a else a + 1) w y0 0) → 512 * y0 ≤ k → ∀ (ls : Array Slot), lv_has ls 5 [(0, .ref h0), (1, .int n1), (2, .int (nI y0)), (3, .int (nI (64 * (8 * y0 + w)))), (4, .int (nI k))] → W p l e (headSpec wsX0_countNotZero ({ frames := 1, cells := 0, slots := 0, locals := 21 })).room s m ([.ref h0] : List Value).toArray below meth c s.heap [] 0 0 (MQ below (vp_Si (fun r : Int32 => r = cf_nz w h (cf_V f))) ([.ref h0] : List Value).toArray s 0 0 (fun _ => False)) (F0 m 28 ls []) := by
          intro n28
          induction n28 with
          | zero => intro k n1 h1 h2; exact absurd h2 (by omega)
          | succ n28 ih28 =>
            intro k n1 hk28 hn28 hI1 hk1 ls hl
            refine lv_iload hx hb dX0_countNotZero_28 (lv_at hl 4 rfl) ?_
            refine lv_iload_n hx hb dX0_countNotZero_30 rfl (lv_at hl 3 rfl) ?_
            refine lv_icmp_ge (tgt := 53) hx hb dX0_countNotZero_31 (by decide) (fun c31 => ?_) (fun c31 => ?_)
            · skip
              have c31 := (nI_leI (a := 64 * (8 * y0 + w)) (b := k) (by omega) (by omega)).mp c31
              refine lv_iinc (v := nI (y0 + 1)) (lv' := [(2, .int (nI (y0 + 1))), (0, .ref h0), (1, .int n1), (3, .int (nI (64 * (8 * y0 + w)))), (4, .int (nI k))]) hx hb dX0_countNotZero_53 hl (k := 2) rfl (by rw [← nI_add]; rfl) (by decide) rfl (fun ls hl => ?_)
              refine lv_goto (tgt := 4) hx hb dX0_countNotZero_56 (by decide) ?_
              exact ih4 (y0 + 1) n1 (by omega) (by omega) (by rw [hI1]; exact cf_row_e (by omega)) ls (lv_sub hl [1, 2, 0] rfl)
            · skip
              have c31 := mt (nI_leI (a := 64 * (8 * y0 + w)) (b := k) (by omega) (by omega)).mpr c31
              refine lv_aload_n hx hb dX0_countNotZero_34 rfl (lv_at hl 0 rfl) ?_
              refine va_get (D := (dC, dI)) (ci := 0) (v := .ref a1) (C := RX0) (T := TX0) (N := 6) hx hb hts (by decide +kernel) hown hK hP 0 rfl rfl 0 (by decide) (hts (.fieldLink RX0 26 "CoefTurns" "cells" "[I") (by decide +kernel)) (fun _ h9 => h9) rfl dX0_countNotZero_35 ?_
              refine lv_iload hx hb dX0_countNotZero_38 (lv_at hl 4 rfl) ?_
              refine cf_iald (D := (dC, dI)) hx hb hK hP 1 0 rfl rfl (k := k) (by omega) (by decide) dX0_countNotZero_40 ?_
              refine lv_if_eq (tgt := 47) hx hb dX0_countNotZero_41 (by decide) (fun c41 => ?_) (fun c41 => ?_)
              · skip
                refine lv_iinc (v := nI (k + 1)) (lv' := [(4, .int (nI (k + 1))), (0, .ref h0), (1, .int n1), (2, .int (nI y0)), (3, .int (nI (64 * (8 * y0 + w))))]) hx hb dX0_countNotZero_47 hl (k := 4) rfl (by rw [← nI_add]; rfl) (by decide) rfl (fun ls hl => ?_)
                refine lv_goto (tgt := 28) hx hb dX0_countNotZero_50 (by decide) ?_
                exact ih28 (k + 1) n1 (by omega) (by omega) (by rw [cf_row_s hk1, ← hI1]; first | rw [if_pos c41] | (rw [if_neg c41])) (by omega) ls (lv_sub hl [1, 2, 3, 4, 0] rfl)
              · skip
                refine lv_iinc (v := n1 + 1) (lv' := [(1, .int (n1 + 1)), (0, .ref h0), (2, .int (nI y0)), (3, .int (nI (64 * (8 * y0 + w)))), (4, .int (nI k))]) hx hb dX0_countNotZero_44 hl (k := 1) rfl rfl (by decide) rfl (fun ls hl => ?_)
                refine lv_iinc (v := nI (k + 1)) (lv' := [(4, .int (nI (k + 1))), (1, .int (n1 + 1)), (0, .ref h0), (2, .int (nI y0)), (3, .int (nI (64 * (8 * y0 + w))))]) hx hb dX0_countNotZero_47 hl (k := 4) rfl (by rw [← nI_add]; rfl) (by decide) rfl (fun ls hl => ?_)
                refine lv_goto (tgt := 28) hx hb dX0_countNotZero_50 (by decide) ?_
                exact ih28 (k + 1) (n1 + 1) (by omega) (by omega) (by rw [cf_row_s hk1, ← hI1]; first | rw [if_pos c41] | (rw [if_neg c41])) (by omega) ls (lv_sub hl [2, 1, 3, 4, 0] rfl)
        exact lp28 (64 * (8 * y0 + w) + 1) (64 * (8 * y0 + 0)) n0 (by omega) (by omega) (by rw [cf_row_0 (by omega)]; exact hI) (by omega) ls (lv_sub hl [2, 3, 4, 1, 0] rfl)
  exact lp4 (h + 1) 0 (nI 0) (by omega) (by omega) rfl ls (lv_sub hl [2, 1, 0] rfl)
set_option maxHeartbeats 4000000 in
set_option maxRecDepth 100000 in
/-- X0_greatestSize -/
theorem kX0_greatestSize (l : Launch) (dC : Nat → ClassId) (dI : Nat → Nat → Nat) (h0 a1 a2 : Nat) (cA cB : ClassId) (f g : Nat → Int32) (w h kw kh : Nat) (hw : w ≤ 8) (hh : h ≤ 8) : Met l yX0_greatestSize wsX0_greatestSize ({ frames := 1, cells := 0, slots := 0, locals := 21 }) (va_Pc [.ref h0] (fun U => va_P (dC, dI) vwCm [(h0, .inr (0, [.ref a1, .ref a2, .int (nI w), .int (nI h), .int (nI kw), .int (nI kh)])), (a1, .inl (cA, 4096, .inl f)), (a2, .inl (cB, 4096, .inl g))] U.heap ∧ va_K (dC, dI) vwCm [(cA, .int), (cB, .int)] U)) (vp_Si (fun r : Int32 => r = cf_mo w h (cf_V f))) 0 0 (fun _ => False) := by
  refine Met.ofW (cc := cX0_greatestSize) (maxL := 5) (ret := (some .int)) (by decide) rfl ?_
  intro p e s m args below meth c s₁ B hml hv
  obtain ⟨rfl, hP, hK⟩ := hv
  have hx := B.exec
  have hb := B.bytes
  have hr := B.returns
  have hts := atoms_spec (ws := wsX0_greatestSize) B.pre
  have hown : s.vm.findClass RX0 = some m.cls := findClass_of_methodNamed B.named
  have hlocks := B.notSynchronized
  have hl := lv_entry ([.ref h0]) (n := 5) (Nat.le_of_ble_eq_true rfl)
  rw [lg_entry_eq]
  generalize (lg_sl ([.ref h0]) ++ List.replicate (5 - (lg_sl ([.ref h0])).length) Slot.unset).toArray = ls at hl ⊢
  have hl : lv_has ls 5 [(0, .ref h0)] := hl
  refine lv_iconst (v := nI 0) hx hb dX0_greatestSize_0 (by decide +kernel) ?_
  refine lv_istore_n (lv' := [(1, .int (nI 0)), (0, .ref h0)]) hx hb dX0_greatestSize_1 rfl hl (by decide) rfl (fun ls hl => ?_)
  refine lv_iconst (v := nI 0) hx hb dX0_greatestSize_2 (by decide +kernel) ?_
  refine lv_istore_n (lv' := [(2, .int (nI 0)), (1, .int (nI 0)), (0, .ref h0)]) hx hb dX0_greatestSize_3 rfl hl (by decide) rfl (fun ls hl => ?_)
  have lp4 : ∀ (n4 : Nat) (y0 : Nat) (n0 : Int32), y0 ≤ h → h < y0 + n4 → n0 = cf_lin (fun (a : Int32) (k : Nat) => cf_ms a (f k)) w y0 0 → 0 ≤ n0 → ∀ (ls : Array Slot), lv_has ls 5 [(0, .ref h0), (1, .int n0), (2, .int (nI y0))] → W p l e (headSpec wsX0_greatestSize ({ frames := 1, cells := 0, slots := 0, locals := 21 })).room s m ([.ref h0] : List Value).toArray below meth c s.heap [] 0 0 (MQ below (vp_Si (fun r : Int32 => r = cf_mo w h (cf_V f))) ([.ref h0] : List Value).toArray s 0 0 (fun _ => False)) (F0 m 4 ls []) := by
    intro n4
    induction n4 with
    | zero => intro y0 n0 h1 h2; exact absurd h2 (by omega)
    | succ n4 ih4 =>
      intro y0 n0 hk4 hn4 hI hp0 ls hl
      refine lv_iload_n hx hb dX0_greatestSize_4 rfl (lv_at hl 2 rfl) ?_
      refine lv_aload_n hx hb dX0_greatestSize_5 rfl (lv_at hl 0 rfl) ?_
      refine va_get (D := (dC, dI)) (ci := 0) (v := .int (nI h)) (C := RX0) (T := TX0) (N := 6) hx hb hts (by decide +kernel) hown hK hP 0 rfl rfl 3 (by decide) (hts (.fieldLink RX0 17 "CoefTurns" "height" "I") (by decide +kernel)) (fun _ h9 => h9) rfl dX0_greatestSize_6 ?_
      refine lv_icmp_ge (tgt := 61) hx hb dX0_greatestSize_9 (by decide) (fun c9 => ?_) (fun c9 => ?_)
      · skip
        have c9 := (nI_leI (a := h) (b := y0) (by omega) (by omega)).mp c9
        refine lv_iload_n hx hb dX0_greatestSize_61 rfl (lv_at hl 1 rfl) ?_
        exact W.iret hx hb hr (fun t ht hW => ⟨_, rfl, (by have e : y0 = h := (by omega); rw [hI, e, cf_lin_e]; rfl), ht⟩) (fun q h => by cases h) dX0_greatestSize_62
      · skip
        have c9 := mt (nI_leI (a := h) (b := y0) (by omega) (by omega)).mpr c9
        refine lv_aload_n hx hb dX0_greatestSize_12 rfl (lv_at hl 0 rfl) ?_
        refine va_get (D := (dC, dI)) (ci := 0) (v := .int (nI w)) (C := RX0) (T := TX0) (N := 6) hx hb hts (by decide +kernel) hown hK hP 0 rfl rfl 2 (by decide) (hts (.fieldLink RX0 13 "CoefTurns" "width" "I") (by decide +kernel)) (fun _ h9 => h9) rfl dX0_greatestSize_13 ?_
        refine lv_iload_n hx hb dX0_greatestSize_16 rfl (lv_at hl 2 rfl) ?_
        refine vp_callSi (W.runS (As := [.int (nI w), .int (nI y0)]) (rest := []) ⟨hx, hb, hml, hown, hts⟩ (kX0_blockStart l w y0) (va_cwS 2 hts gX0_greatestSize_X0_blockStart rfl rfl rfl (by decide +kernel) ⟨Nat.le_of_ble_eq_true rfl, Nat.le_of_ble_eq_true rfl⟩) ⟨fun a U g mk q => q, fun U hU hW => ⟨rfl, trivial⟩⟩ rfl rfl hl.1 rfl (lv_room (Nat.le_of_ble_eq_true rfl)) dX0_greatestSize_17 ⟨Nat.le_of_ble_eq_true rfl, Nat.le_of_ble_eq_true rfl⟩) (fun r17 w17 => ?_)
        subst w17
        refine lv_istore_n (lv' := [(3, .int (nI (64 * (8 * y0 + w)))), (0, .ref h0), (1, .int n0), (2, .int (nI y0))]) hx hb dX0_greatestSize_20 rfl hl (by decide) rfl (fun ls hl => ?_)
        refine lv_iconst (v := nI 0) hx hb dX0_greatestSize_21 (by decide +kernel) ?_
        refine lv_iload_n hx hb dX0_greatestSize_22 rfl (lv_at hl 3 rfl) ?_
        refine vp_callSi (W.runS (As := [.int (nI 0), .int (nI y0)]) (rest := []) ⟨hx, hb, hml, hown, hts⟩ (kX0_blockStart l 0 y0) (va_cwS 2 hts gX0_greatestSize_X0_blockStart rfl rfl rfl (by decide +kernel) ⟨Nat.le_of_ble_eq_true rfl, Nat.le_of_ble_eq_true rfl⟩) ⟨fun a U g mk q => q, fun U hU hW => ⟨rfl, trivial⟩⟩ rfl rfl hl.1 rfl (lv_room (Nat.le_of_ble_eq_true rfl)) dX0_greatestSize_23 ⟨Nat.le_of_ble_eq_true rfl, Nat.le_of_ble_eq_true rfl⟩) (fun r23 w23 => ?_)
        subst w23
        refine lv_istore (lv' := [(4, .int (nI (64 * (8 * y0 + 0)))), (3, .int (nI (64 * (8 * y0 + w)))), (0, .ref h0), (1, .int n0), (2, .int (nI y0))]) hx hb dX0_greatestSize_26 hl (by decide) rfl (fun ls hl => ?_)
        have lp28 : ∀ (n28 : Nat) (k : Nat) (n1 : Int32), k ≤ 64 * (8 * y0 + w) → 64 * (8 * y0 + w) < k + n28 → n1 = cf_row (fun (a : Int32) (k : Nat) => cf_ms a (f k)) y0 (k - 512 * y0) (cf_lin (fun (a : Int32) (k : Nat) => cf_ms a (f k)) w y0 0) → 512 * y0 ≤ k → 0 ≤ n1 → ∀ (ls : Array Slot), lv_has ls 5 [(0, .ref h0), (1, .int n1), (2, .int (nI y0)), (3, .int (nI (64 * (8 * y0 + w)))), (4, .int (nI k))] → W p l e (headSpec wsX0_greatestSize ({ frames := 1, cells := 0, slots := 0, locals := 21 })).room s m ([.ref h0] : List Value).toArray below meth c s.heap [] 0 0 (MQ below (vp_Si (fun r : Int32 => r = cf_mo w h (cf_V f))) ([.ref h0] : List Value).toArray s 0 0 (fun _ => False)) (F0 m 28 ls []) := by
          intro n28
          induction n28 with
          | zero => intro k n1 h1 h2; exact absurd h2 (by omega)
          | succ n28 ih28 =>
            intro k n1 hk28 hn28 hI1 hk1 hp1 ls hl
            refine lv_iload hx hb dX0_greatestSize_28 (lv_at hl 4 rfl) ?_
            refine lv_iload_n hx hb dX0_greatestSize_30 rfl (lv_at hl 3 rfl) ?_
            refine lv_icmp_ge (tgt := 55) hx hb dX0_greatestSize_31 (by decide) (fun c31 => ?_) (fun c31 => ?_)
            · skip
              have c31 := (nI_leI (a := 64 * (8 * y0 + w)) (b := k) (by omega) (by omega)).mp c31
              refine lv_iinc (v := nI (y0 + 1)) (lv' := [(2, .int (nI (y0 + 1))), (0, .ref h0), (1, .int n1), (3, .int (nI (64 * (8 * y0 + w)))), (4, .int (nI k))]) hx hb dX0_greatestSize_55 hl (k := 2) rfl (by rw [← nI_add]; rfl) (by decide) rfl (fun ls hl => ?_)
              refine lv_goto (tgt := 4) hx hb dX0_greatestSize_58 (by decide) ?_
              exact ih4 (y0 + 1) n1 (by omega) (by omega) (by rw [hI1]; exact cf_row_e (by omega)) hp1 ls (lv_sub hl [1, 2, 0] rfl)
            · skip
              have c31 := mt (nI_leI (a := 64 * (8 * y0 + w)) (b := k) (by omega) (by omega)).mpr c31
              refine lv_iload_n hx hb dX0_greatestSize_34 rfl (lv_at hl 1 rfl) ?_
              refine lv_aload_n hx hb dX0_greatestSize_35 rfl (lv_at hl 0 rfl) ?_
              refine va_get (D := (dC, dI)) (ci := 0) (v := .ref a1) (C := RX0) (T := TX0) (N := 6) hx hb hts (by decide +kernel) hown hK hP 0 rfl rfl 0 (by decide) (hts (.fieldLink RX0 26 "CoefTurns" "cells" "[I") (by decide +kernel)) (fun _ h9 => h9) rfl dX0_greatestSize_36 ?_
              refine lv_iload hx hb dX0_greatestSize_39 (lv_at hl 4 rfl) ?_
              refine cf_iald (D := (dC, dI)) hx hb hK hP 1 0 rfl rfl (k := k) (by omega) (by decide) dX0_greatestSize_41 ?_
              refine va_mabs hx hb (hml.trans hl.1.symm) hown (hts (.methodLink RX0 115 Lib.Math.abs.name) (by decide +kernel)) (hts (.static Lib.Math.abs.name) (by decide +kernel)) (hts (.initialized "java/lang/Math") (by decide +kernel)) (hts (.code Lib.Math.abs.name Lib.Math.abs.code 1 (some .int)) (by first | exact List.mem_of_getElem? (i := 7) rfl | decide +kernel)) (Nat.le_of_ble_eq_true rfl) (Nat.le_of_ble_eq_true rfl) (Nat.le_of_ble_eq_true rfl) (Nat.le_of_ble_eq_true rfl) dX0_greatestSize_42 ?_
              refine va_mmax hx hb (hml.trans hl.1.symm) hown (hts (.methodLink RX0 61 Lib.Math.max.name) (by decide +kernel)) (hts (.static Lib.Math.max.name) (by decide +kernel)) (hts (.initialized "java/lang/Math") (by decide +kernel)) (hts (.code Lib.Math.max.name Lib.Math.max.code 2 (some .int)) (by first | exact List.mem_of_getElem? (i := 10) rfl | decide +kernel)) (Nat.le_of_ble_eq_true rfl) (Nat.le_of_ble_eq_true rfl) (Nat.le_of_ble_eq_true rfl) (Nat.le_of_ble_eq_true rfl) dX0_greatestSize_45 ?_
              refine lv_istore_n (lv' := [(1, .int (if n1 < (if 0 ≤ (f k) then (f k) else 0 - (f k)) then (if 0 ≤ (f k) then (f k) else 0 - (f k)) else n1)), (0, .ref h0), (2, .int (nI y0)), (3, .int (nI (64 * (8 * y0 + w)))), (4, .int (nI k))]) hx hb dX0_greatestSize_48 rfl hl (by decide) rfl (fun ls hl => ?_)
              refine lv_iinc (v := nI (k + 1)) (lv' := [(4, .int (nI (k + 1))), (1, .int (if n1 < (if 0 ≤ (f k) then (f k) else 0 - (f k)) then (if 0 ≤ (f k) then (f k) else 0 - (f k)) else n1)), (0, .ref h0), (2, .int (nI y0)), (3, .int (nI (64 * (8 * y0 + w))))]) hx hb dX0_greatestSize_49 hl (k := 4) rfl (by rw [← nI_add]; rfl) (by decide) rfl (fun ls hl => ?_)
              refine lv_goto (tgt := 28) hx hb dX0_greatestSize_52 (by decide) ?_
              exact ih28 (k + 1) (if n1 < (if 0 ≤ (f k) then (f k) else 0 - (f k)) then (if 0 ≤ (f k) then (f k) else 0 - (f k)) else n1) (by omega) (by omega) (by rw [cf_row_s hk1, ← hI1]; exact cf_mc_ms hp1) (by omega) (by show 0 ≤ cf_mc n1 (f k); rw [cf_mc_ms hp1]; exact cf_ms_pos hp1) ls (lv_sub hl [2, 1, 3, 4, 0] rfl)
        exact lp28 (64 * (8 * y0 + w) + 1) (64 * (8 * y0 + 0)) n0 (by omega) (by omega) (by rw [cf_row_0 (by omega)]; exact hI) (by omega) hp0 ls (lv_sub hl [2, 3, 4, 1, 0] rfl)
  exact lp4 (h + 1) 0 (nI 0) (by omega) (by omega) rfl (Int32.le_refl _) ls (lv_sub hl [2, 1, 0] rfl)
set_option maxHeartbeats 4000000 in
set_option maxRecDepth 100000 in
/-- X0_at -/
theorem kX0_at (l : Launch) (dC : Nat → ClassId) (dI : Nat → Nat → Nat) (h0 a1 a2 : Nat) (cA cB : ClassId) (f g : Nat → Int32) (w h kw kh : Nat) (bx bz q : Int32) (hw : w ≤ 8) (hh : h ≤ 8) : Met l yX0_at wsX0_at ({ frames := 1, cells := 0, slots := 0, locals := 22 }) (va_Pc [.ref h0, .int bx, .int bz, .int q] (fun U => va_P (dC, dI) vwCm [(h0, .inr (0, [.ref a1, .ref a2, .int (nI w), .int (nI h), .int (nI kw), .int (nI kh)])), (a1, .inl (cA, 4096, .inl f)), (a2, .inl (cB, 4096, .inl g))] U.heap ∧ va_K (dC, dI) vwCm [(cA, .int), (cB, .int)] U)) (vp_Si (fun r : Int32 => r = cf_at w h (cf_V f) bx bz q)) 0 0 (fun _ => False) := by
  refine Met.ofW (cc := cX0_at) (maxL := 4) (ret := (some .int)) (by decide) rfl ?_
  intro p e s m args below meth c s₁ B hml hv
  obtain ⟨rfl, hP, hK⟩ := hv
  have hx := B.exec
  have hb := B.bytes
  have hr := B.returns
  have hts := atoms_spec (ws := wsX0_at) B.pre
  have hown : s.vm.findClass RX0 = some m.cls := findClass_of_methodNamed B.named
  have hlocks := B.notSynchronized
  have hl := lv_entry ([.ref h0, .int bx, .int bz, .int q]) (n := 4) (Nat.le_of_ble_eq_true rfl)
  rw [lg_entry_eq]
  generalize (lg_sl ([.ref h0, .int bx, .int bz, .int q]) ++ List.replicate (4 - (lg_sl ([.ref h0, .int bx, .int bz, .int q])).length) Slot.unset).toArray = ls at hl ⊢
  have hl : lv_has ls 4 [(0, .ref h0), (1, .int bx), (2, .int bz), (3, .int q)] := hl
  refine lv_aload_n hx hb dX0_at_0 rfl (lv_at hl 0 rfl) ?_
  refine lv_iload_n hx hb dX0_at_1 rfl (lv_at hl 1 rfl) ?_
  refine lv_iload_n hx hb dX0_at_2 rfl (lv_at hl 2 rfl) ?_
  have hPc := hP.sub (ws' := [(h0, .inr (0, [.ref a1, .ref a2, .int (nI w), .int (nI h), .int (nI kw), .int (nI kh)])), (a1, .inl (cA, 4096, .inl f)), (a2, .inl (cB, 4096, .inl g))]) [0, 1, 2] rfl
  have hKc := hK.sub (tys' := [(cA, .int), (cB, .int)]) [0, 1] rfl
  refine vp_callSi (W.runV (As := [.int bx, .int bz]) (rest := []) ⟨hx, hb, hml, hown, hts⟩ (kX0_isBlock l dC dI h0 a1 a2 cA cB f g w h kw kh bx bz) (cwV 2 hts gX0_at_X0_isBlock rfl rfl rfl (by decide +kernel) ⟨Nat.le_of_ble_eq_true rfl, Nat.le_of_ble_eq_true rfl⟩) ⟨fun a U g mk q => by obtain ⟨q0, qP, qK⟩ := q; exact ⟨q0, qP, va_K.moved (u := U) (U := U.calling g mk a) (Vm.Alike.refl U.vm) qK⟩, va_recv hKc hPc (ci := 0) (q0 := 0) rfl rfl, fun U hU hW => ⟨rfl, by rw [hU]; exact hPc, va_K.moved hW.alike hKc⟩⟩ rfl rfl hl.1 rfl (lv_room (Nat.le_of_ble_eq_true rfl)) dX0_at_3 ⟨Nat.le_of_ble_eq_true rfl, Nat.le_of_ble_eq_true rfl⟩) (fun r3 w3 => ?_)
  subst w3
  refine lv_if_eq (tgt := 16) hx hb dX0_at_6 (by decide) (fun c6 => ?_) (fun c6 => ?_)
  · skip
    refine lv_iconst (v := nI 0) hx hb dX0_at_16 (by decide +kernel) ?_
    exact W.iret hx hb hr (fun t ht hW => ⟨_, rfl, (by unfold cf_at; first | (rw [if_pos c6]; try exact nI_0) | (rw [if_neg c6, if_pos c13]; try exact nI_0)), ht⟩) (fun q h => by cases h) dX0_at_17
  · skip
    obtain ⟨x, z, hx_, hz_, ebx, ebz⟩ := cf_ib_1 hw hh c6
    refine lv_iload_n hx hb dX0_at_9 rfl (lv_at hl 3 rfl) ?_
    refine vp_callSi (W.runS (As := [.int q]) (rest := []) ⟨hx, hb, hml, hown, hts⟩ (kX0_isPlace l q) (va_cwS 1 hts gX0_at_X0_isPlace rfl rfl rfl (by decide +kernel) ⟨Nat.le_of_ble_eq_true rfl, Nat.le_of_ble_eq_true rfl⟩) ⟨fun a U g mk q => q, fun U hU hW => ⟨rfl, trivial⟩⟩ rfl rfl hl.1 rfl (lv_room (Nat.le_of_ble_eq_true rfl)) dX0_at_10 ⟨Nat.le_of_ble_eq_true rfl, Nat.le_of_ble_eq_true rfl⟩) (fun r10 w10 => ?_)
    subst w10
    refine lv_if_ne (tgt := 18) hx hb dX0_at_13 (by decide) (fun c13 => ?_) (fun c13 => ?_)
    · skip
      obtain ⟨j, hj, eq⟩ := cf_ip_1 c13
      refine lv_aload_n hx hb dX0_at_18 rfl (lv_at hl 0 rfl) ?_
      refine va_get (D := (dC, dI)) (ci := 0) (v := .ref a1) (C := RX0) (T := TX0) (N := 6) hx hb hts (by decide +kernel) hown hK hP 0 rfl rfl 0 (by decide) (hts (.fieldLink RX0 26 "CoefTurns" "cells" "[I") (by decide +kernel)) (fun _ h9 => h9) rfl dX0_at_19 ?_
      refine lv_iload_n hx hb dX0_at_22 rfl (lv_at hl 1 rfl) ?_
      refine cf_top ebx ?_
      refine lv_iload_n hx hb dX0_at_23 rfl (lv_at hl 2 rfl) ?_
      refine cf_top ebz ?_
      refine vp_callSi (W.runS (As := [.int (nI x), .int (nI z)]) (rest := [.ref a1]) ⟨hx, hb, hml, hown, hts⟩ (kX0_blockStart l x z) (va_cwS 2 hts gX0_at_X0_blockStart rfl rfl rfl (by decide +kernel) ⟨Nat.le_of_ble_eq_true rfl, Nat.le_of_ble_eq_true rfl⟩) ⟨fun a U g mk q => q, fun U hU hW => ⟨rfl, trivial⟩⟩ rfl rfl hl.1 rfl (lv_room (Nat.le_of_ble_eq_true rfl)) dX0_at_24 ⟨Nat.le_of_ble_eq_true rfl, Nat.le_of_ble_eq_true rfl⟩) (fun r24 w24 => ?_)
      subst w24
      refine lv_iload_n hx hb dX0_at_27 rfl (lv_at hl 3 rfl) ?_
      refine cf_top eq ?_
      refine lv_iadd hx hb dX0_at_28 ?_
      refine cf_top (nI_add _ _) ?_
      refine cf_iald (D := (dC, dI)) hx hb hK hP 1 0 rfl rfl (k := 64 * (8 * z + x) + j) (by omega) (by decide) dX0_at_29 ?_
      exact W.iret hx hb hr (fun t ht hW => ⟨_, rfl, (by rw [ebx, ebz, eq, cf_at_n hw hh hx_ hz_ hj]; rfl), ht⟩) (fun q h => by cases h) dX0_at_30
    · skip
      refine lv_iconst (v := nI 0) hx hb dX0_at_16 (by decide +kernel) ?_
      exact W.iret hx hb hr (fun t ht hW => ⟨_, rfl, (by unfold cf_at; first | (rw [if_pos c6]; try exact nI_0) | (rw [if_neg c6, if_pos c13]; try exact nI_0)), ht⟩) (fun q h => by cases h) dX0_at_17
