set_option maxHeartbeats 4000000 in
set_option maxRecDepth 100000 in
/-- X0_init -/
theorem kX0_init (l : Launch) (dC : Nat → ClassId) (dI : Nat → Nat → Nat) (sz : Nat) (h0 : Nat) (p1 p2 : Int32) : Met l yX0_init wsX0_init ({ frames := 2, cells := 2, slots := 8192, locals := 41 }) (va_Pc [.ref h0, .int p1, .int p2] (fun U => U.heap.size = sz ∧ va_P (dC, dI) vwCm [(h0, .inr (0, [.null, .null, .int 0, .int 0, .int 0, .int 0]))] U.heap ∧ va_K (dC, dI) vwCm [] U ∧ va_D (fun _ => True) [(h0, .inr (0, [.null, .null, .int 0, .int 0, .int 0, .int 0]))])) (va_Qv (fun u : Nat × Nat => (cf_near p1 = nI u.1 ∧ 1 ≤ u.1 ∧ u.1 ≤ 8) ∧ (cf_near p2 = nI u.2 ∧ 1 ≤ u.2 ∧ u.2 ≤ 8)) (fun (u : Nat × Nat) (t : State) => ∃ (a1 a2 : Nat) (cA cB : ClassId), va_P (dC, dI) vwCm [(h0, .inr (0, [.ref a1, .ref a2, .int (nI u.1), .int (nI u.2), .int (nI u.1), .int (nI u.2)])), (a1, .inl (cA, 4096, .inl (fun _ => 0))), (a2, .inl (cB, 4096, .inl (fun _ => 0)))] t.heap ∧ va_K (dC, dI) vwCm [(cA, .int), (cB, .int)] t ∧ va_D (va_A [(h0, .inr (0, [.null, .null, .int 0, .int 0, .int 0, .int 0]))] sz) [(h0, .inr (0, [.ref a1, .ref a2, .int (nI u.1), .int (nI u.2), .int (nI u.1), .int (nI u.2)])), (a1, .inl (cA, 4096, .inl (fun _ => 0))), (a2, .inl (cB, 4096, .inl (fun _ => 0)))]) (va_A [(h0, .inr (0, [.null, .null, .int 0, .int 0, .int 0, .int 0]))] sz)) 2 8192 (va_A [(h0, .inr (0, [.null, .null, .int 0, .int 0, .int 0, .int 0]))] sz) := by
  refine Met.ofW (cc := cX0_init) (maxL := 3) (ret := none) (by decide) rfl ?_
  intro p e s m args below meth c s₁ B hml hv
  obtain ⟨rfl, hsz, hP, hK, hD0⟩ := hv
  have hx := B.exec
  have hb := B.bytes
  have hr := B.returns
  have hts := atoms_spec (ws := wsX0_init) B.pre
  have hown : s.vm.findClass RX0 = some m.cls := findClass_of_methodNamed B.named
  have hlocks := B.notSynchronized
  have hin : meth.name = "<init>" := (name_of_methodNamed B.named B.method).1
  subst hsz
  have hD := hD0.self (sz := s.heap.size)
  generalize hAe : va_A [(h0, .inr (0, [.null, .null, .int 0, .int 0, .int 0, .int 0]))] s.heap.size = A at hD ⊢
  have hA : ∀ q : Nat, s.heap.size ≤ q → A q := fun q h => by rw [← hAe]; exact Or.inr h
  have hS : va_S A s.heap s.heap [] := va_S.rf
  have hP : va_P (dC, dI) vwCm [(h0, .inr (0, [.null, .null, .int 0, .int 0, .int 0, .int 0]))] s.heap := hP
  have hl := lv_entry ([.ref h0, .int p1, .int p2]) (n := 3) (Nat.le_of_ble_eq_true rfl)
  rw [lg_entry_eq]
  generalize (lg_sl ([.ref h0, .int p1, .int p2]) ++ List.replicate (3 - (lg_sl ([.ref h0, .int p1, .int p2])).length) Slot.unset).toArray = ls at hl ⊢
  have hl : lv_has ls 3 [(0, .ref h0), (1, .int p1), (2, .int p2)] := hl
  refine lv_aload_n hx hb dX0_init_0 rfl (lv_at hl 0 rfl) ?_
  refine W.objInit hx hb hown (hts (.methodLink RX0 3 objectInit) (by decide +kernel)) (hts (.instanceMethod objectInit) (by decide +kernel)) (hts (.code objectInit ⟨#[0xb1]⟩ 1 none) (by first | exact List.mem_of_getElem? (i := 3) rfl | decide +kernel)) rfl (by rw [hml]; exact hl.1) rfl dX0_init_1 (Nat.le_of_ble_eq_true rfl) (Nat.le_of_ble_eq_true rfl) ?_
  refine W.eq (g2 := F0 m 4 ls []) rfl ?_
  refine lv_aload_n hx hb dX0_init_4 rfl (lv_at hl 0 rfl) ?_
  refine lv_iload_n hx hb dX0_init_5 rfl (lv_at hl 1 rfl) ?_
  refine vp_callSi (W.runS (As := [.int p1]) (rest := [.ref h0]) ⟨hx, hb, hml, hown, hts⟩ (kX0_nearestSize l p1) (va_cwS 1 hts gX0_init_X0_nearestSize rfl rfl rfl (by decide +kernel) ⟨Nat.le_of_ble_eq_true rfl, Nat.le_of_ble_eq_true rfl⟩) ⟨fun a U g mk q => q, fun U hU hW => ⟨rfl, trivial⟩⟩ rfl rfl hl.1 rfl (lv_room (Nat.le_of_ble_eq_true rfl)) dX0_init_6 ⟨Nat.le_of_ble_eq_true rfl, Nat.le_of_ble_eq_true rfl⟩) (fun r6 w6 => ?_)
  obtain ⟨n6, hn16, hn86, en6⟩ := cf_near_n p1
  refine cf_top (w6.trans en6) ?_
  refine va_put (D := (dC, dI)) (ci := 0) (v := .int (nI n6)) (ty := .int) (C := RX0) (T := TX0) (N := 6) hx hb hts (by decide +kernel) tyX0 tyX0_ok nmX0 hown hK hP hD hS 0 rfl rfl 2 (by decide) (hts (.fieldLink RX0 13 "CoefTurns" "width" "I") (by decide +kernel)) (fun _ h9 => h9) rfl (by decide +kernel) rfl rfl (Nat.le_of_ble_eq_true rfl) dX0_init_9 (fun H locs hP hD hS => ?_)
  have hP : va_P (dC, dI) vwCm [(h0, .inr (0, [.null, .null, .int (nI n6), .int 0, .int 0, .int 0]))] H := hP
  have hD : va_D A [(h0, .inr (0, [.null, .null, .int (nI n6), .int 0, .int 0, .int 0]))] := hD
  refine lv_aload_n hx hb dX0_init_12 rfl (lv_at hl 0 rfl) ?_
  refine lv_iload_n hx hb dX0_init_13 rfl (lv_at hl 2 rfl) ?_
  refine vp_callSi (W.runS (As := [.int p2]) (rest := [.ref h0]) ⟨hx, hb, hml, hown, hts⟩ (kX0_nearestSize l p2) (va_cwS 1 hts gX0_init_X0_nearestSize rfl rfl rfl (by decide +kernel) ⟨Nat.le_of_ble_eq_true rfl, Nat.le_of_ble_eq_true rfl⟩) ⟨fun a U g mk q => q, fun U hU hW => ⟨rfl, trivial⟩⟩ rfl rfl hl.1 rfl (lv_room (Nat.le_of_ble_eq_true rfl)) dX0_init_14 ⟨Nat.le_of_ble_eq_true rfl, Nat.le_of_ble_eq_true rfl⟩) (fun r14 w14 => ?_)
  obtain ⟨n14, hn114, hn814, en14⟩ := cf_near_n p2
  refine cf_top (w14.trans en14) ?_
  refine va_put (D := (dC, dI)) (ci := 0) (v := .int (nI n14)) (ty := .int) (C := RX0) (T := TX0) (N := 6) hx hb hts (by decide +kernel) tyX0 tyX0_ok nmX0 hown hK hP hD hS 0 rfl rfl 3 (by decide) (hts (.fieldLink RX0 17 "CoefTurns" "height" "I") (by decide +kernel)) (fun _ h9 => h9) rfl (by decide +kernel) rfl rfl (Nat.le_of_ble_eq_true rfl) dX0_init_17 (fun H locs hP hD hS => ?_)
  have hP : va_P (dC, dI) vwCm [(h0, .inr (0, [.null, .null, .int (nI n6), .int (nI n14), .int 0, .int 0]))] H := hP
  have hD : va_D A [(h0, .inr (0, [.null, .null, .int (nI n6), .int (nI n14), .int 0, .int 0]))] := hD
  refine lv_aload_n hx hb dX0_init_20 rfl (lv_at hl 0 rfl) ?_
  refine lv_aload_n hx hb dX0_init_21 rfl (lv_at hl 0 rfl) ?_
  refine va_get (D := (dC, dI)) (ci := 0) (v := .int (nI n6)) (C := RX0) (T := TX0) (N := 6) hx hb hts (by decide +kernel) hown hK hP 0 rfl rfl 2 (by decide) (hts (.fieldLink RX0 13 "CoefTurns" "width" "I") (by decide +kernel)) (fun _ h9 => h9) rfl dX0_init_22 ?_
  refine va_put (D := (dC, dI)) (ci := 0) (v := .int (nI n6)) (ty := .int) (C := RX0) (T := TX0) (N := 6) hx hb hts (by decide +kernel) tyX0 tyX0_ok nmX0 hown hK hP hD hS 0 rfl rfl 4 (by decide) (hts (.fieldLink RX0 20 "CoefTurns" "keptWidth" "I") (by decide +kernel)) (fun _ h9 => h9) rfl (by decide +kernel) rfl rfl (Nat.le_of_ble_eq_true rfl) dX0_init_25 (fun H locs hP hD hS => ?_)
  have hP : va_P (dC, dI) vwCm [(h0, .inr (0, [.null, .null, .int (nI n6), .int (nI n14), .int (nI n6), .int 0]))] H := hP
  have hD : va_D A [(h0, .inr (0, [.null, .null, .int (nI n6), .int (nI n14), .int (nI n6), .int 0]))] := hD
  refine lv_aload_n hx hb dX0_init_28 rfl (lv_at hl 0 rfl) ?_
  refine lv_aload_n hx hb dX0_init_29 rfl (lv_at hl 0 rfl) ?_
  refine va_get (D := (dC, dI)) (ci := 0) (v := .int (nI n14)) (C := RX0) (T := TX0) (N := 6) hx hb hts (by decide +kernel) hown hK hP 0 rfl rfl 3 (by decide) (hts (.fieldLink RX0 17 "CoefTurns" "height" "I") (by decide +kernel)) (fun _ h9 => h9) rfl dX0_init_30 ?_
  refine va_put (D := (dC, dI)) (ci := 0) (v := .int (nI n14)) (ty := .int) (C := RX0) (T := TX0) (N := 6) hx hb hts (by decide +kernel) tyX0 tyX0_ok nmX0 hown hK hP hD hS 0 rfl rfl 5 (by decide) (hts (.fieldLink RX0 23 "CoefTurns" "keptHeight" "I") (by decide +kernel)) (fun _ h9 => h9) rfl (by decide +kernel) rfl rfl (Nat.le_of_ble_eq_true rfl) dX0_init_33 (fun H locs hP hD hS => ?_)
  have hP : va_P (dC, dI) vwCm [(h0, .inr (0, [.null, .null, .int (nI n6), .int (nI n14), .int (nI n6), .int (nI n14)]))] H := hP
  have hD : va_D A [(h0, .inr (0, [.null, .null, .int (nI n6), .int (nI n14), .int (nI n6), .int (nI n14)]))] := hD
  refine lv_aload_n hx hb dX0_init_36 rfl (lv_at hl 0 rfl) ?_
  refine lv_sipush (v := nI 4096) hx hb dX0_init_37 (by decide +kernel) ?_
  refine va_newa (D := (dC, dI)) (atype := .int) (a0 := (4096, .inl (fun _ => 0))) (ty := .int) (N' := 4096) hx hb (hts (.arrayClass .int) (by decide +kernel)) rfl hK hP hD hS hA (fun _ => rfl) (nI_pos (by omega)) (nI_clamp (by omega)) (by decide) (Nat.le_of_ble_eq_true rfl) (Nat.le_of_ble_eq_true rfl) dX0_init_40 (fun q40 cA40 H hK hP hD hS => ?_)
  have hP : va_P (dC, dI) vwCm [(h0, .inr (0, [.null, .null, .int (nI n6), .int (nI n14), .int (nI n6), .int (nI n14)])), (q40, .inl (cA40, 4096, .inl (fun _ => 0)))] H := hP
  have hD : va_D A [(h0, .inr (0, [.null, .null, .int (nI n6), .int (nI n14), .int (nI n6), .int (nI n14)])), (q40, .inl (cA40, 4096, .inl (fun _ => 0)))] := hD
  have hK : va_K (dC, dI) vwCm [(cA40, .int)] s := hK
  refine va_putF (D := (dC, dI)) (ci := 0) (v := .ref q40) (ty := (.array .int)) (C := RX0) (T := TX0) (N := 6) hx hb hts (by decide +kernel) tyX0 tyX0_ok nmX0 hown hK hP hD hS 0 rfl rfl 0 (by decide) (hts (.fieldLink RX0 26 "CoefTurns" "cells" "[I") (by decide +kernel)) (fun _ h9 => h9) rfl hin rfl (by decide +kernel) rfl rfl (Nat.le_of_ble_eq_true rfl) dX0_init_42 (fun H locs hP hD hS => ?_)
  have hP : va_P (dC, dI) vwCm [(h0, .inr (0, [.ref q40, .null, .int (nI n6), .int (nI n14), .int (nI n6), .int (nI n14)])), (q40, .inl (cA40, 4096, .inl (fun _ => 0)))] H := hP
  have hD : va_D A [(h0, .inr (0, [.ref q40, .null, .int (nI n6), .int (nI n14), .int (nI n6), .int (nI n14)])), (q40, .inl (cA40, 4096, .inl (fun _ => 0)))] := hD
  refine lv_aload_n hx hb dX0_init_45 rfl (lv_at hl 0 rfl) ?_
  refine lv_sipush (v := nI 4096) hx hb dX0_init_46 (by decide +kernel) ?_
  refine va_newa (D := (dC, dI)) (atype := .int) (a0 := (4096, .inl (fun _ => 0))) (ty := .int) (N' := 4096) hx hb (hts (.arrayClass .int) (by decide +kernel)) rfl hK hP hD hS hA (fun _ => rfl) (nI_pos (by omega)) (nI_clamp (by omega)) (by decide) (Nat.le_of_ble_eq_true rfl) (Nat.le_of_ble_eq_true rfl) dX0_init_49 (fun q49 cA49 H hK hP hD hS => ?_)
  have hP : va_P (dC, dI) vwCm [(h0, .inr (0, [.ref q40, .null, .int (nI n6), .int (nI n14), .int (nI n6), .int (nI n14)])), (q40, .inl (cA40, 4096, .inl (fun _ => 0))), (q49, .inl (cA49, 4096, .inl (fun _ => 0)))] H := hP
  have hD : va_D A [(h0, .inr (0, [.ref q40, .null, .int (nI n6), .int (nI n14), .int (nI n6), .int (nI n14)])), (q40, .inl (cA40, 4096, .inl (fun _ => 0))), (q49, .inl (cA49, 4096, .inl (fun _ => 0)))] := hD
  have hK : va_K (dC, dI) vwCm [(cA40, .int), (cA49, .int)] s := hK
  refine va_putF (D := (dC, dI)) (ci := 0) (v := .ref q49) (ty := (.array .int)) (C := RX0) (T := TX0) (N := 6) hx hb hts (by decide +kernel) tyX0 tyX0_ok nmX0 hown hK hP hD hS 0 rfl rfl 1 (by decide) (hts (.fieldLink RX0 30 "CoefTurns" "keptCells" "[I") (by decide +kernel)) (fun _ h9 => h9) rfl hin rfl (by decide +kernel) rfl rfl (Nat.le_of_ble_eq_true rfl) dX0_init_51 (fun H locs hP hD hS => ?_)
  have hP : va_P (dC, dI) vwCm [(h0, .inr (0, [.ref q40, .ref q49, .int (nI n6), .int (nI n14), .int (nI n6), .int (nI n14)])), (q40, .inl (cA40, 4096, .inl (fun _ => 0))), (q49, .inl (cA49, 4096, .inl (fun _ => 0)))] H := hP
  have hD : va_D A [(h0, .inr (0, [.ref q40, .ref q49, .int (nI n6), .int (nI n14), .int (nI n6), .int (nI n14)])), (q40, .inl (cA40, 4096, .inl (fun _ => 0))), (q49, .inl (cA49, 4096, .inl (fun _ => 0)))] := hD
  refine W.widen (k := 2) (n := 8192) (by omega) (by omega) ?_
  have hP9 := hP.sub (ws' := [(h0, .inr (0, [.ref q40, .ref q49, .int (nI n6), .int (nI n14), .int (nI n6), .int (nI n14)])), (q40, .inl (cA40, 4096, .inl (fun _ => 0))), (q49, .inl (cA49, 4096, .inl (fun _ => 0)))]) [0, 1, 2] rfl
  have hD9 := hD.sub (ws' := [(h0, .inr (0, [.ref q40, .ref q49, .int (nI n6), .int (nI n14), .int (nI n6), .int (nI n14)])), (q40, .inl (cA40, 4096, .inl (fun _ => 0))), (q49, .inl (cA49, 4096, .inl (fun _ => 0)))]) [0, 1, 2] (by decide) rfl
  have hK9 := hK.sub (tys' := [(cA40, .int), (cA49, .int)]) [0, 1] rfl
  exact W.vret hx hb hr (fun t ht hW => ⟨⟨(n6, n14), rfl, ⟨⟨en6, hn16, hn86⟩, en14, hn114, hn814⟩, q40, q49, cA40, cA49, by rw [ht]; exact hP9, va_K.moved hW.alike hK9, hD9⟩, hS.F ht⟩) hS.2.2 dX0_init_54
