set_option maxHeartbeats 4000000 in
set_option maxRecDepth 100000 in
/-- Y1_init -/
theorem kY1_init (l : Launch) (dC : Nat → ClassId) (dI : Nat → Nat → Nat) (sz : Nat) (o : Nat) (p1 p2 : Int32) : Met l yY1_init wsY1_init ({ frames := 1, cells := 3, slots := 12288, locals := 20 }) (va_Pc [.ref o, .int p1, .int p2] (fun U => U.heap.size = sz ∧ va_P (dC, dI) vwCm [(o, .inr (1, [.int 0, .int 0, .int 0, .int 0, .int 0, .null, .null, .null]))] U.heap ∧ va_K (dC, dI) vwCm [] U ∧ va_D (fun _ => True) [(o, .inr (1, [.int 0, .int 0, .int 0, .int 0, .int 0, .null, .null, .null]))])) (va_Qv (fun u : Nat × Nat => (cf_near p1 = nI u.1 ∧ 1 ≤ u.1 ∧ u.1 ≤ 8) ∧ (cf_near p2 = nI u.2 ∧ 1 ≤ u.2 ∧ u.2 ≤ 8)) (fun (u : Nat × Nat) (t : State) => ∃ (b1 b2 b3 : Nat) (cC cD cE : ClassId), va_P (dC, dI) vwCm [(o, .inr (1, [.int 0, .int (nI u.1), .int (nI u.2), .int (nI u.1), .int (nI u.2), .ref b1, .ref b2, .ref b3])), (b1, .inl (cC, 4096, .inl (fun _ => 0))), (b2, .inl (cD, 4096, .inl (fun _ => 0))), (b3, .inl (cE, 4096, .inl (fun _ => 0)))] t.heap ∧ va_K (dC, dI) vwCm [(cC, .int), (cD, .int), (cE, .int)] t ∧ va_D (va_A [(o, .inr (1, [.int 0, .int 0, .int 0, .int 0, .int 0, .null, .null, .null]))] sz) [(o, .inr (1, [.int 0, .int (nI u.1), .int (nI u.2), .int (nI u.1), .int (nI u.2), .ref b1, .ref b2, .ref b3])), (b1, .inl (cC, 4096, .inl (fun _ => 0))), (b2, .inl (cD, 4096, .inl (fun _ => 0))), (b3, .inl (cE, 4096, .inl (fun _ => 0)))]) (va_A [(o, .inr (1, [.int 0, .int 0, .int 0, .int 0, .int 0, .null, .null, .null]))] sz)) 3 12288 (va_A [(o, .inr (1, [.int 0, .int 0, .int 0, .int 0, .int 0, .null, .null, .null]))] sz) := by
  refine Met.ofW (cc := cY1_init) (maxL := 3) (ret := none) (by decide) rfl ?_
  intro p e s m args below meth c s₁ B hml hv
  obtain ⟨rfl, hsz, hP, hK, hD0⟩ := hv
  have hx := B.exec
  have hb := B.bytes
  have hr := B.returns
  have hts := atoms_spec (ws := wsY1_init) B.pre
  have hown : s.vm.findClass RY1 = some m.cls := findClass_of_methodNamed B.named
  have hlocks := B.notSynchronized
  have hin : meth.name = "<init>" := (name_of_methodNamed B.named B.method).1
  subst hsz
  have hD := hD0.self (sz := s.heap.size)
  generalize hAe : va_A [(o, .inr (1, [.int 0, .int 0, .int 0, .int 0, .int 0, .null, .null, .null]))] s.heap.size = A at hD ⊢
  have hA : ∀ q : Nat, s.heap.size ≤ q → A q := fun q h => by rw [← hAe]; exact Or.inr h
  have hS : va_S A s.heap s.heap [] := va_S.rf
  have hP : va_P (dC, dI) vwCm [(o, .inr (1, [.int 0, .int 0, .int 0, .int 0, .int 0, .null, .null, .null]))] s.heap := hP
  have hl := lv_entry ([.ref o, .int p1, .int p2]) (n := 3) (Nat.le_of_ble_eq_true rfl)
  rw [lg_entry_eq]
  generalize (lg_sl ([.ref o, .int p1, .int p2]) ++ List.replicate (3 - (lg_sl ([.ref o, .int p1, .int p2])).length) Slot.unset).toArray = ls at hl ⊢
  have hl : lv_has ls 3 [(0, .ref o), (1, .int p1), (2, .int p2)] := hl
  refine lv_aload_n hx hb dY1_init_0 rfl (lv_at hl 0 rfl) ?_
  refine W.objInit hx hb hown (hts (.methodLink RY1 1 objectInit) (by decide +kernel)) (hts (.instanceMethod objectInit) (by decide +kernel)) (hts (.code objectInit ⟨#[0xb1]⟩ 1 none) (by first | exact List.mem_of_getElem? (i := 3) rfl | decide +kernel)) rfl (by rw [hml]; exact hl.1) rfl dY1_init_1 (Nat.le_of_ble_eq_true rfl) (Nat.le_of_ble_eq_true rfl) ?_
  refine W.eq (g2 := F0 m 4 ls []) rfl ?_
  refine lv_aload_n hx hb dY1_init_4 rfl (lv_at hl 0 rfl) ?_
  refine lv_sipush (v := nI 4096) hx hb dY1_init_5 (by decide +kernel) ?_
  refine va_newa (D := (dC, dI)) (atype := .int) (a0 := (4096, .inl (fun _ => 0))) (ty := .int) (N' := 4096) hx hb (hts (.arrayClass .int) (by decide +kernel)) rfl hK hP hD hS hA (fun _ => rfl) (nI_pos (by omega)) (nI_clamp (by omega)) (by decide) (Nat.le_of_ble_eq_true rfl) (Nat.le_of_ble_eq_true rfl) dY1_init_8 (fun q8 cA8 H hK hP hD hS => ?_)
  have hP : va_P (dC, dI) vwCm [(o, .inr (1, [.int 0, .int 0, .int 0, .int 0, .int 0, .null, .null, .null])), (q8, .inl (cA8, 4096, .inl (fun _ => 0)))] H := hP
  have hD : va_D A [(o, .inr (1, [.int 0, .int 0, .int 0, .int 0, .int 0, .null, .null, .null])), (q8, .inl (cA8, 4096, .inl (fun _ => 0)))] := hD
  have hK : va_K (dC, dI) vwCm [(cA8, .int)] s := hK
  refine va_putF (D := (dC, dI)) (ci := 1) (v := .ref q8) (ty := (.array .int)) (C := RY1) (T := TY1) (N := 8) hx hb hts (by decide +kernel) tyY1 tyY1_ok nmY1 hown hK hP hD hS 0 rfl rfl 5 (by decide) (hts (.fieldLink RY1 7 "CoefTurnsModel" "plane" "[I") (by decide +kernel)) (fun _ h9 => h9) rfl hin rfl (by decide +kernel) rfl rfl (Nat.le_of_ble_eq_true rfl) dY1_init_10 (fun H locs hP hD hS => ?_)
  have hP : va_P (dC, dI) vwCm [(o, .inr (1, [.int 0, .int 0, .int 0, .int 0, .int 0, .ref q8, .null, .null])), (q8, .inl (cA8, 4096, .inl (fun _ => 0)))] H := hP
  have hD : va_D A [(o, .inr (1, [.int 0, .int 0, .int 0, .int 0, .int 0, .ref q8, .null, .null])), (q8, .inl (cA8, 4096, .inl (fun _ => 0)))] := hD
  refine lv_aload_n hx hb dY1_init_13 rfl (lv_at hl 0 rfl) ?_
  refine lv_sipush (v := nI 4096) hx hb dY1_init_14 (by decide +kernel) ?_
  refine va_newa (D := (dC, dI)) (atype := .int) (a0 := (4096, .inl (fun _ => 0))) (ty := .int) (N' := 4096) hx hb (hts (.arrayClass .int) (by decide +kernel)) rfl hK hP hD hS hA (fun _ => rfl) (nI_pos (by omega)) (nI_clamp (by omega)) (by decide) (Nat.le_of_ble_eq_true rfl) (Nat.le_of_ble_eq_true rfl) dY1_init_17 (fun q17 cA17 H hK hP hD hS => ?_)
  have hP : va_P (dC, dI) vwCm [(o, .inr (1, [.int 0, .int 0, .int 0, .int 0, .int 0, .ref q8, .null, .null])), (q8, .inl (cA8, 4096, .inl (fun _ => 0))), (q17, .inl (cA17, 4096, .inl (fun _ => 0)))] H := hP
  have hD : va_D A [(o, .inr (1, [.int 0, .int 0, .int 0, .int 0, .int 0, .ref q8, .null, .null])), (q8, .inl (cA8, 4096, .inl (fun _ => 0))), (q17, .inl (cA17, 4096, .inl (fun _ => 0)))] := hD
  have hK : va_K (dC, dI) vwCm [(cA8, .int), (cA17, .int)] s := hK
  refine va_putF (D := (dC, dI)) (ci := 1) (v := .ref q17) (ty := (.array .int)) (C := RY1) (T := TY1) (N := 8) hx hb hts (by decide +kernel) tyY1 tyY1_ok nmY1 hown hK hP hD hS 0 rfl rfl 6 (by decide) (hts (.fieldLink RY1 13 "CoefTurnsModel" "kept" "[I") (by decide +kernel)) (fun _ h9 => h9) rfl hin rfl (by decide +kernel) rfl rfl (Nat.le_of_ble_eq_true rfl) dY1_init_19 (fun H locs hP hD hS => ?_)
  have hP : va_P (dC, dI) vwCm [(o, .inr (1, [.int 0, .int 0, .int 0, .int 0, .int 0, .ref q8, .ref q17, .null])), (q8, .inl (cA8, 4096, .inl (fun _ => 0))), (q17, .inl (cA17, 4096, .inl (fun _ => 0)))] H := hP
  have hD : va_D A [(o, .inr (1, [.int 0, .int 0, .int 0, .int 0, .int 0, .ref q8, .ref q17, .null])), (q8, .inl (cA8, 4096, .inl (fun _ => 0))), (q17, .inl (cA17, 4096, .inl (fun _ => 0)))] := hD
  refine lv_aload_n hx hb dY1_init_22 rfl (lv_at hl 0 rfl) ?_
  refine lv_sipush (v := nI 4096) hx hb dY1_init_23 (by decide +kernel) ?_
  refine va_newa (D := (dC, dI)) (atype := .int) (a0 := (4096, .inl (fun _ => 0))) (ty := .int) (N' := 4096) hx hb (hts (.arrayClass .int) (by decide +kernel)) rfl hK hP hD hS hA (fun _ => rfl) (nI_pos (by omega)) (nI_clamp (by omega)) (by decide) (Nat.le_of_ble_eq_true rfl) (Nat.le_of_ble_eq_true rfl) dY1_init_26 (fun q26 cA26 H hK hP hD hS => ?_)
  have hP : va_P (dC, dI) vwCm [(o, .inr (1, [.int 0, .int 0, .int 0, .int 0, .int 0, .ref q8, .ref q17, .null])), (q8, .inl (cA8, 4096, .inl (fun _ => 0))), (q17, .inl (cA17, 4096, .inl (fun _ => 0))), (q26, .inl (cA26, 4096, .inl (fun _ => 0)))] H := hP
  have hD : va_D A [(o, .inr (1, [.int 0, .int 0, .int 0, .int 0, .int 0, .ref q8, .ref q17, .null])), (q8, .inl (cA8, 4096, .inl (fun _ => 0))), (q17, .inl (cA17, 4096, .inl (fun _ => 0))), (q26, .inl (cA26, 4096, .inl (fun _ => 0)))] := hD
  have hK : va_K (dC, dI) vwCm [(cA8, .int), (cA17, .int), (cA26, .int)] s := hK
  refine va_putF (D := (dC, dI)) (ci := 1) (v := .ref q26) (ty := (.array .int)) (C := RY1) (T := TY1) (N := 8) hx hb hts (by decide +kernel) tyY1 tyY1_ok nmY1 hown hK hP hD hS 0 rfl rfl 7 (by decide) (hts (.fieldLink RY1 16 "CoefTurnsModel" "moved" "[I") (by decide +kernel)) (fun _ h9 => h9) rfl hin rfl (by decide +kernel) rfl rfl (Nat.le_of_ble_eq_true rfl) dY1_init_28 (fun H locs hP hD hS => ?_)
  have hP : va_P (dC, dI) vwCm [(o, .inr (1, [.int 0, .int 0, .int 0, .int 0, .int 0, .ref q8, .ref q17, .ref q26])), (q8, .inl (cA8, 4096, .inl (fun _ => 0))), (q17, .inl (cA17, 4096, .inl (fun _ => 0))), (q26, .inl (cA26, 4096, .inl (fun _ => 0)))] H := hP
  have hD : va_D A [(o, .inr (1, [.int 0, .int 0, .int 0, .int 0, .int 0, .ref q8, .ref q17, .ref q26])), (q8, .inl (cA8, 4096, .inl (fun _ => 0))), (q17, .inl (cA17, 4096, .inl (fun _ => 0))), (q26, .inl (cA26, 4096, .inl (fun _ => 0)))] := hD
  refine lv_aload_n hx hb dY1_init_31 rfl (lv_at hl 0 rfl) ?_
  refine lv_iload_n hx hb dY1_init_32 rfl (lv_at hl 1 rfl) ?_
  refine vp_callSi (W.runS (As := [.int p1]) (rest := [.ref o]) ⟨hx, hb, hml, hown, hts⟩ (kY1_near l p1) (va_cwS 1 hts gY1_init_Y1_near rfl rfl rfl (by decide +kernel) ⟨Nat.le_of_ble_eq_true rfl, Nat.le_of_ble_eq_true rfl⟩) ⟨fun a U g mk q => q, fun U hU hW => ⟨rfl, trivial⟩⟩ rfl rfl hl.1 rfl (lv_room (Nat.le_of_ble_eq_true rfl)) dY1_init_33 ⟨Nat.le_of_ble_eq_true rfl, Nat.le_of_ble_eq_true rfl⟩) (fun r33 w33 => ?_)
  obtain ⟨n33, hn133, hn833, en33⟩ := cf_near_n p1
  refine cf_top (w33.trans en33) ?_
  refine va_put (D := (dC, dI)) (ci := 1) (v := .int (nI n33)) (ty := .int) (C := RY1) (T := TY1) (N := 8) hx hb hts (by decide +kernel) tyY1 tyY1_ok nmY1 hown hK hP hD hS 0 rfl rfl 1 (by decide) (hts (.fieldLink RY1 23 "CoefTurnsModel" "w" "I") (by decide +kernel)) (fun _ h9 => h9) rfl (by decide +kernel) rfl rfl (Nat.le_of_ble_eq_true rfl) dY1_init_36 (fun H locs hP hD hS => ?_)
  have hP : va_P (dC, dI) vwCm [(o, .inr (1, [.int 0, .int (nI n33), .int 0, .int 0, .int 0, .ref q8, .ref q17, .ref q26])), (q8, .inl (cA8, 4096, .inl (fun _ => 0))), (q17, .inl (cA17, 4096, .inl (fun _ => 0))), (q26, .inl (cA26, 4096, .inl (fun _ => 0)))] H := hP
  have hD : va_D A [(o, .inr (1, [.int 0, .int (nI n33), .int 0, .int 0, .int 0, .ref q8, .ref q17, .ref q26])), (q8, .inl (cA8, 4096, .inl (fun _ => 0))), (q17, .inl (cA17, 4096, .inl (fun _ => 0))), (q26, .inl (cA26, 4096, .inl (fun _ => 0)))] := hD
  refine lv_aload_n hx hb dY1_init_39 rfl (lv_at hl 0 rfl) ?_
  refine lv_iload_n hx hb dY1_init_40 rfl (lv_at hl 2 rfl) ?_
  refine vp_callSi (W.runS (As := [.int p2]) (rest := [.ref o]) ⟨hx, hb, hml, hown, hts⟩ (kY1_near l p2) (va_cwS 1 hts gY1_init_Y1_near rfl rfl rfl (by decide +kernel) ⟨Nat.le_of_ble_eq_true rfl, Nat.le_of_ble_eq_true rfl⟩) ⟨fun a U g mk q => q, fun U hU hW => ⟨rfl, trivial⟩⟩ rfl rfl hl.1 rfl (lv_room (Nat.le_of_ble_eq_true rfl)) dY1_init_41 ⟨Nat.le_of_ble_eq_true rfl, Nat.le_of_ble_eq_true rfl⟩) (fun r41 w41 => ?_)
  obtain ⟨n41, hn141, hn841, en41⟩ := cf_near_n p2
  refine cf_top (w41.trans en41) ?_
  refine va_put (D := (dC, dI)) (ci := 1) (v := .int (nI n41)) (ty := .int) (C := RY1) (T := TY1) (N := 8) hx hb hts (by decide +kernel) tyY1 tyY1_ok nmY1 hown hK hP hD hS 0 rfl rfl 2 (by decide) (hts (.fieldLink RY1 27 "CoefTurnsModel" "h" "I") (by decide +kernel)) (fun _ h9 => h9) rfl (by decide +kernel) rfl rfl (Nat.le_of_ble_eq_true rfl) dY1_init_44 (fun H locs hP hD hS => ?_)
  have hP : va_P (dC, dI) vwCm [(o, .inr (1, [.int 0, .int (nI n33), .int (nI n41), .int 0, .int 0, .ref q8, .ref q17, .ref q26])), (q8, .inl (cA8, 4096, .inl (fun _ => 0))), (q17, .inl (cA17, 4096, .inl (fun _ => 0))), (q26, .inl (cA26, 4096, .inl (fun _ => 0)))] H := hP
  have hD : va_D A [(o, .inr (1, [.int 0, .int (nI n33), .int (nI n41), .int 0, .int 0, .ref q8, .ref q17, .ref q26])), (q8, .inl (cA8, 4096, .inl (fun _ => 0))), (q17, .inl (cA17, 4096, .inl (fun _ => 0))), (q26, .inl (cA26, 4096, .inl (fun _ => 0)))] := hD
  refine lv_aload_n hx hb dY1_init_47 rfl (lv_at hl 0 rfl) ?_
  refine lv_aload_n hx hb dY1_init_48 rfl (lv_at hl 0 rfl) ?_
  refine va_get (D := (dC, dI)) (ci := 1) (v := .int (nI n33)) (C := RY1) (T := TY1) (N := 8) hx hb hts (by decide +kernel) hown hK hP 0 rfl rfl 1 (by decide) (hts (.fieldLink RY1 23 "CoefTurnsModel" "w" "I") (by decide +kernel)) (fun _ h9 => h9) rfl dY1_init_49 ?_
  refine va_put (D := (dC, dI)) (ci := 1) (v := .int (nI n33)) (ty := .int) (C := RY1) (T := TY1) (N := 8) hx hb hts (by decide +kernel) tyY1 tyY1_ok nmY1 hown hK hP hD hS 0 rfl rfl 3 (by decide) (hts (.fieldLink RY1 30 "CoefTurnsModel" "keptW" "I") (by decide +kernel)) (fun _ h9 => h9) rfl (by decide +kernel) rfl rfl (Nat.le_of_ble_eq_true rfl) dY1_init_52 (fun H locs hP hD hS => ?_)
  have hP : va_P (dC, dI) vwCm [(o, .inr (1, [.int 0, .int (nI n33), .int (nI n41), .int (nI n33), .int 0, .ref q8, .ref q17, .ref q26])), (q8, .inl (cA8, 4096, .inl (fun _ => 0))), (q17, .inl (cA17, 4096, .inl (fun _ => 0))), (q26, .inl (cA26, 4096, .inl (fun _ => 0)))] H := hP
  have hD : va_D A [(o, .inr (1, [.int 0, .int (nI n33), .int (nI n41), .int (nI n33), .int 0, .ref q8, .ref q17, .ref q26])), (q8, .inl (cA8, 4096, .inl (fun _ => 0))), (q17, .inl (cA17, 4096, .inl (fun _ => 0))), (q26, .inl (cA26, 4096, .inl (fun _ => 0)))] := hD
  refine lv_aload_n hx hb dY1_init_55 rfl (lv_at hl 0 rfl) ?_
  refine lv_aload_n hx hb dY1_init_56 rfl (lv_at hl 0 rfl) ?_
  refine va_get (D := (dC, dI)) (ci := 1) (v := .int (nI n41)) (C := RY1) (T := TY1) (N := 8) hx hb hts (by decide +kernel) hown hK hP 0 rfl rfl 2 (by decide) (hts (.fieldLink RY1 27 "CoefTurnsModel" "h" "I") (by decide +kernel)) (fun _ h9 => h9) rfl dY1_init_57 ?_
  refine va_put (D := (dC, dI)) (ci := 1) (v := .int (nI n41)) (ty := .int) (C := RY1) (T := TY1) (N := 8) hx hb hts (by decide +kernel) tyY1 tyY1_ok nmY1 hown hK hP hD hS 0 rfl rfl 4 (by decide) (hts (.fieldLink RY1 33 "CoefTurnsModel" "keptH" "I") (by decide +kernel)) (fun _ h9 => h9) rfl (by decide +kernel) rfl rfl (Nat.le_of_ble_eq_true rfl) dY1_init_60 (fun H locs hP hD hS => ?_)
  have hP : va_P (dC, dI) vwCm [(o, .inr (1, [.int 0, .int (nI n33), .int (nI n41), .int (nI n33), .int (nI n41), .ref q8, .ref q17, .ref q26])), (q8, .inl (cA8, 4096, .inl (fun _ => 0))), (q17, .inl (cA17, 4096, .inl (fun _ => 0))), (q26, .inl (cA26, 4096, .inl (fun _ => 0)))] H := hP
  have hD : va_D A [(o, .inr (1, [.int 0, .int (nI n33), .int (nI n41), .int (nI n33), .int (nI n41), .ref q8, .ref q17, .ref q26])), (q8, .inl (cA8, 4096, .inl (fun _ => 0))), (q17, .inl (cA17, 4096, .inl (fun _ => 0))), (q26, .inl (cA26, 4096, .inl (fun _ => 0)))] := hD
  refine W.widen (k := 3) (n := 12288) (by omega) (by omega) ?_
  have hP9 := hP.sub (ws' := [(o, .inr (1, [.int 0, .int (nI n33), .int (nI n41), .int (nI n33), .int (nI n41), .ref q8, .ref q17, .ref q26])), (q8, .inl (cA8, 4096, .inl (fun _ => 0))), (q17, .inl (cA17, 4096, .inl (fun _ => 0))), (q26, .inl (cA26, 4096, .inl (fun _ => 0)))]) [0, 1, 2, 3] rfl
  have hD9 := hD.sub (ws' := [(o, .inr (1, [.int 0, .int (nI n33), .int (nI n41), .int (nI n33), .int (nI n41), .ref q8, .ref q17, .ref q26])), (q8, .inl (cA8, 4096, .inl (fun _ => 0))), (q17, .inl (cA17, 4096, .inl (fun _ => 0))), (q26, .inl (cA26, 4096, .inl (fun _ => 0)))]) [0, 1, 2, 3] (by decide) rfl
  have hK9 := hK.sub (tys' := [(cA8, .int), (cA17, .int), (cA26, .int)]) [0, 1, 2] rfl
  exact W.vret hx hb hr (fun t ht hW => ⟨⟨(n33, n41), rfl, ⟨⟨en33, hn133, hn833⟩, en41, hn141, hn841⟩, q8, q17, q26, cA8, cA17, cA26, by rw [ht]; exact hP9, va_K.moved hW.alike hK9, hD9⟩, hS.F ht⟩) hS.2.2 dY1_init_63
