set_option maxHeartbeats 4000000 in
set_option maxRecDepth 100000 in
/-- Y1_crop -/
theorem kY1_crop (l : Launch) (dC : Nat → ClassId) (dI : Nat → Nat → Nat) (sz : Nat) (o b1 b2 b3 : Nat) (cC cD cE : ClassId) (f g md : Nat → Int32) (th : Int32) (w h kw kh : Nat) (x y a b : Int32) (hw : w ≤ 8) (hh : h ≤ 8) : Met l yY1_crop wsY1_crop ({ frames := 1, cells := 0, slots := 0, locals := 23 }) (va_Pc [.ref o, .int x, .int y, .int a, .int b] (fun U => U.heap.size = sz ∧ va_P (dC, dI) vwCm [(o, .inr (1, [.int th, .int (nI w), .int (nI h), .int (nI kw), .int (nI kh), .ref b1, .ref b2, .ref b3])), (b1, .inl (cC, 4096, .inl f)), (b2, .inl (cD, 4096, .inl g)), (b3, .inl (cE, 4096, .inl md))] U.heap ∧ va_K (dC, dI) vwCm [(cC, .int), (cD, .int), (cE, .int)] U ∧ va_D (fun _ => True) [(o, .inr (1, [.int th, .int (nI w), .int (nI h), .int (nI kw), .int (nI kh), .ref b1, .ref b2, .ref b3])), (b1, .inl (cC, 4096, .inl f)), (b2, .inl (cD, 4096, .inl g)), (b3, .inl (cE, 4096, .inl md))])) (va_Qi (fun (r : Int32) (u : (Nat → Int32) × (Nat → Int32) × Nat × Nat) => (r = nI 0 ∧ (¬ ∃ X Y A B, cf_ok w h x y a b X Y A B) ∧ u.1 = f ∧ u.2.2.1 = w ∧ u.2.2.2 = h) ∨ (r = nI 1 ∧ ∃ X Y, cf_ok w h x y a b X Y u.2.2.1 u.2.2.2 ∧ cf_Ag u.2.2.1 u.2.2.2 (cf_V u.1) (cf_cr X Y (cf_V f)))) (fun (u : (Nat → Int32) × (Nat → Int32) × Nat × Nat) (t : State) => va_P (dC, dI) vwCm [(o, .inr (1, [.int (nI 0), .int (nI u.2.2.1), .int (nI u.2.2.2), .int (nI kw), .int (nI kh), .ref b1, .ref b2, .ref b3])), (b1, .inl (cC, 4096, .inl u.1)), (b2, .inl (cD, 4096, .inl g)), (b3, .inl (cE, 4096, .inl u.2.1))] t.heap ∧ va_K (dC, dI) vwCm [(cC, .int), (cD, .int), (cE, .int)] t ∧ va_D (va_A [(o, .inr (1, [.int th, .int (nI w), .int (nI h), .int (nI kw), .int (nI kh), .ref b1, .ref b2, .ref b3])), (b1, .inl (cC, 4096, .inl f)), (b2, .inl (cD, 4096, .inl g)), (b3, .inl (cE, 4096, .inl md))] sz) [(o, .inr (1, [.int (nI 0), .int (nI u.2.2.1), .int (nI u.2.2.2), .int (nI kw), .int (nI kh), .ref b1, .ref b2, .ref b3])), (b1, .inl (cC, 4096, .inl u.1)), (b2, .inl (cD, 4096, .inl g)), (b3, .inl (cE, 4096, .inl u.2.1))]) (va_A [(o, .inr (1, [.int th, .int (nI w), .int (nI h), .int (nI kw), .int (nI kh), .ref b1, .ref b2, .ref b3])), (b1, .inl (cC, 4096, .inl f)), (b2, .inl (cD, 4096, .inl g)), (b3, .inl (cE, 4096, .inl md))] sz)) 0 0 (va_A [(o, .inr (1, [.int th, .int (nI w), .int (nI h), .int (nI kw), .int (nI kh), .ref b1, .ref b2, .ref b3])), (b1, .inl (cC, 4096, .inl f)), (b2, .inl (cD, 4096, .inl g)), (b3, .inl (cE, 4096, .inl md))] sz) := by
  refine Met.ofW (cc := cY1_crop) (maxL := 8) (ret := (some .boolean)) (by decide) rfl ?_
  intro p e s m args below meth c s₁ B hml hv
  obtain ⟨rfl, hsz, hP, hK, hD0⟩ := hv
  have hx := B.exec
  have hb := B.bytes
  have hr := B.returns
  have hts := atoms_spec (ws := wsY1_crop) B.pre
  have hown : s.vm.findClass RY1 = some m.cls := findClass_of_methodNamed B.named
  have hlocks := B.notSynchronized
  subst hsz
  have hD := hD0.self (sz := s.heap.size)
  generalize hAe : va_A [(o, .inr (1, [.int th, .int (nI w), .int (nI h), .int (nI kw), .int (nI kh), .ref b1, .ref b2, .ref b3])), (b1, .inl (cC, 4096, .inl f)), (b2, .inl (cD, 4096, .inl g)), (b3, .inl (cE, 4096, .inl md))] s.heap.size = A at hD ⊢
  have hA : ∀ q : Nat, s.heap.size ≤ q → A q := fun q h => by rw [← hAe]; exact Or.inr h
  have hS : va_S A s.heap s.heap [] := va_S.rf
  have hP : va_P (dC, dI) vwCm [(o, .inr (1, [.int th, .int (nI w), .int (nI h), .int (nI kw), .int (nI kh), .ref b1, .ref b2, .ref b3])), (b1, .inl (cC, 4096, .inl f)), (b2, .inl (cD, 4096, .inl g)), (b3, .inl (cE, 4096, .inl md))] s.heap := hP
  have hl := lv_entry ([.ref o, .int x, .int y, .int a, .int b]) (n := 8) (Nat.le_of_ble_eq_true rfl)
  rw [lg_entry_eq]
  generalize (lg_sl ([.ref o, .int x, .int y, .int a, .int b]) ++ List.replicate (8 - (lg_sl ([.ref o, .int x, .int y, .int a, .int b])).length) Slot.unset).toArray = ls at hl ⊢
  have hl : lv_has ls 8 [(0, .ref o), (1, .int x), (2, .int y), (3, .int a), (4, .int b)] := hl
  refine lv_aload_n hx hb dY1_crop_0 rfl (lv_at hl 0 rfl) ?_
  refine lv_iconst (v := nI 0) hx hb dY1_crop_1 (by decide +kernel) ?_
  refine va_put (D := (dC, dI)) (ci := 1) (v := .int (nI 0)) (ty := .int) (C := RY1) (T := TY1) (N := 8) hx hb hts (by decide +kernel) tyY1 tyY1_ok nmY1 hown hK hP hD hS 0 rfl rfl 0 (by decide) (hts (.fieldLink RY1 36 "CoefTurnsModel" "thrown" "I") (by decide +kernel)) (fun _ h9 => h9) rfl (by decide +kernel) rfl rfl (Nat.le_of_ble_eq_true rfl) dY1_crop_2 (fun H locs hP hD hS => ?_)
  have hP : va_P (dC, dI) vwCm [(o, .inr (1, [.int (nI 0), .int (nI w), .int (nI h), .int (nI kw), .int (nI kh), .ref b1, .ref b2, .ref b3])), (b1, .inl (cC, 4096, .inl f)), (b2, .inl (cD, 4096, .inl g)), (b3, .inl (cE, 4096, .inl md))] H := hP
  have hD : va_D A [(o, .inr (1, [.int (nI 0), .int (nI w), .int (nI h), .int (nI kw), .int (nI kh), .ref b1, .ref b2, .ref b3])), (b1, .inl (cC, 4096, .inl f)), (b2, .inl (cD, 4096, .inl g)), (b3, .inl (cE, 4096, .inl md))] := hD
  refine lv_iload_n hx hb dY1_crop_5 rfl (lv_at hl 1 rfl) ?_
  refine lv_if_lt (tgt := 62) hx hb dY1_crop_6 (by decide) (fun c6 => ?_) (fun c6 => ?_)
  · skip
    refine lv_iconst (v := nI 0) hx hb dY1_crop_62 (by decide +kernel) ?_
    have hP9 := hP.sub (ws' := [(o, .inr (1, [.int (nI 0), .int (nI w), .int (nI h), .int (nI kw), .int (nI kh), .ref b1, .ref b2, .ref b3])), (b1, .inl (cC, 4096, .inl f)), (b2, .inl (cD, 4096, .inl g)), (b3, .inl (cE, 4096, .inl md))]) [0, 1, 2, 3] rfl
    have hD9 := hD.sub (ws' := [(o, .inr (1, [.int (nI 0), .int (nI w), .int (nI h), .int (nI kw), .int (nI kh), .ref b1, .ref b2, .ref b3])), (b1, .inl (cC, 4096, .inl f)), (b2, .inl (cD, 4096, .inl g)), (b3, .inl (cE, 4096, .inl md))]) [0, 1, 2, 3] (by decide) rfl
    exact W.zret (ty := .boolean) hx hb hr rfl (fun t ht hW => ⟨⟨_, (f, md, w, h), rfl, (Or.inl ⟨rfl, (by first | exact cf_no1 hw hh (Or.inl c6) | exact cf_no1 hw hh (Or.inr (Or.inl c10)) | exact cf_no1 hw hh (Or.inr (Or.inr (Or.inl c15))) | exact cf_no1 hw hh (Or.inr (Or.inr (Or.inr c21))) | (rw [eX, eY, eA, eB]; exact cf_no2 hX hY hA9 hB9 hw hh (by omega))), rfl, rfl, rfl⟩), by rw [ht]; exact hP9, va_K.moved hW.alike hK, hD9⟩, hS.F ht⟩) hS.2.2 dY1_crop_63
  · skip
    refine lv_iload_n hx hb dY1_crop_9 rfl (lv_at hl 2 rfl) ?_
    refine lv_if_lt (tgt := 62) hx hb dY1_crop_10 (by decide) (fun c10 => ?_) (fun c10 => ?_)
    · skip
      refine lv_iconst (v := nI 0) hx hb dY1_crop_62 (by decide +kernel) ?_
      have hP9 := hP.sub (ws' := [(o, .inr (1, [.int (nI 0), .int (nI w), .int (nI h), .int (nI kw), .int (nI kh), .ref b1, .ref b2, .ref b3])), (b1, .inl (cC, 4096, .inl f)), (b2, .inl (cD, 4096, .inl g)), (b3, .inl (cE, 4096, .inl md))]) [0, 1, 2, 3] rfl
      have hD9 := hD.sub (ws' := [(o, .inr (1, [.int (nI 0), .int (nI w), .int (nI h), .int (nI kw), .int (nI kh), .ref b1, .ref b2, .ref b3])), (b1, .inl (cC, 4096, .inl f)), (b2, .inl (cD, 4096, .inl g)), (b3, .inl (cE, 4096, .inl md))]) [0, 1, 2, 3] (by decide) rfl
      exact W.zret (ty := .boolean) hx hb hr rfl (fun t ht hW => ⟨⟨_, (f, md, w, h), rfl, (Or.inl ⟨rfl, (by first | exact cf_no1 hw hh (Or.inl c6) | exact cf_no1 hw hh (Or.inr (Or.inl c10)) | exact cf_no1 hw hh (Or.inr (Or.inr (Or.inl c15))) | exact cf_no1 hw hh (Or.inr (Or.inr (Or.inr c21))) | (rw [eX, eY, eA, eB]; exact cf_no2 hX hY hA9 hB9 hw hh (by omega))), rfl, rfl, rfl⟩), by rw [ht]; exact hP9, va_K.moved hW.alike hK, hD9⟩, hS.F ht⟩) hS.2.2 dY1_crop_63
    · skip
      refine lv_iload_n hx hb dY1_crop_13 rfl (lv_at hl 3 rfl) ?_
      refine lv_iconst (v := nI 1) hx hb dY1_crop_14 (by decide +kernel) ?_
      refine lv_icmp_lt (tgt := 62) hx hb dY1_crop_15 (by decide) (fun c15 => ?_) (fun c15 => ?_)
      · skip
        refine lv_iconst (v := nI 0) hx hb dY1_crop_62 (by decide +kernel) ?_
        have hP9 := hP.sub (ws' := [(o, .inr (1, [.int (nI 0), .int (nI w), .int (nI h), .int (nI kw), .int (nI kh), .ref b1, .ref b2, .ref b3])), (b1, .inl (cC, 4096, .inl f)), (b2, .inl (cD, 4096, .inl g)), (b3, .inl (cE, 4096, .inl md))]) [0, 1, 2, 3] rfl
        have hD9 := hD.sub (ws' := [(o, .inr (1, [.int (nI 0), .int (nI w), .int (nI h), .int (nI kw), .int (nI kh), .ref b1, .ref b2, .ref b3])), (b1, .inl (cC, 4096, .inl f)), (b2, .inl (cD, 4096, .inl g)), (b3, .inl (cE, 4096, .inl md))]) [0, 1, 2, 3] (by decide) rfl
        exact W.zret (ty := .boolean) hx hb hr rfl (fun t ht hW => ⟨⟨_, (f, md, w, h), rfl, (Or.inl ⟨rfl, (by first | exact cf_no1 hw hh (Or.inl c6) | exact cf_no1 hw hh (Or.inr (Or.inl c10)) | exact cf_no1 hw hh (Or.inr (Or.inr (Or.inl c15))) | exact cf_no1 hw hh (Or.inr (Or.inr (Or.inr c21))) | (rw [eX, eY, eA, eB]; exact cf_no2 hX hY hA9 hB9 hw hh (by omega))), rfl, rfl, rfl⟩), by rw [ht]; exact hP9, va_K.moved hW.alike hK, hD9⟩, hS.F ht⟩) hS.2.2 dY1_crop_63
      · skip
        refine lv_iload hx hb dY1_crop_18 (lv_at hl 4 rfl) ?_
        refine lv_iconst (v := nI 1) hx hb dY1_crop_20 (by decide +kernel) ?_
        refine lv_icmp_lt (tgt := 62) hx hb dY1_crop_21 (by decide) (fun c21 => ?_) (fun c21 => ?_)
        · skip
          refine lv_iconst (v := nI 0) hx hb dY1_crop_62 (by decide +kernel) ?_
          have hP9 := hP.sub (ws' := [(o, .inr (1, [.int (nI 0), .int (nI w), .int (nI h), .int (nI kw), .int (nI kh), .ref b1, .ref b2, .ref b3])), (b1, .inl (cC, 4096, .inl f)), (b2, .inl (cD, 4096, .inl g)), (b3, .inl (cE, 4096, .inl md))]) [0, 1, 2, 3] rfl
          have hD9 := hD.sub (ws' := [(o, .inr (1, [.int (nI 0), .int (nI w), .int (nI h), .int (nI kw), .int (nI kh), .ref b1, .ref b2, .ref b3])), (b1, .inl (cC, 4096, .inl f)), (b2, .inl (cD, 4096, .inl g)), (b3, .inl (cE, 4096, .inl md))]) [0, 1, 2, 3] (by decide) rfl
          exact W.zret (ty := .boolean) hx hb hr rfl (fun t ht hW => ⟨⟨_, (f, md, w, h), rfl, (Or.inl ⟨rfl, (by first | exact cf_no1 hw hh (Or.inl c6) | exact cf_no1 hw hh (Or.inr (Or.inl c10)) | exact cf_no1 hw hh (Or.inr (Or.inr (Or.inl c15))) | exact cf_no1 hw hh (Or.inr (Or.inr (Or.inr c21))) | (rw [eX, eY, eA, eB]; exact cf_no2 hX hY hA9 hB9 hw hh (by omega))), rfl, rfl, rfl⟩), by rw [ht]; exact hP9, va_K.moved hW.alike hK, hD9⟩, hS.F ht⟩) hS.2.2 dY1_crop_63
        · skip
          obtain ⟨X, eX, hX⟩ := cf_nat c6
          obtain ⟨Y, eY, hY⟩ := cf_nat c10
          obtain ⟨A9, eA, hA9, hA1⟩ := cf_pos c15
          obtain ⟨B9, eB, hB9, hB1⟩ := cf_pos c21
          refine lv_iload_n hx hb dY1_crop_24 rfl (lv_at hl 3 rfl) ?_
          refine cf_top eA ?_
          refine lv_aload_n hx hb dY1_crop_25 rfl (lv_at hl 0 rfl) ?_
          refine va_get (D := (dC, dI)) (ci := 1) (v := .int (nI w)) (C := RY1) (T := TY1) (N := 8) hx hb hts (by decide +kernel) hown hK hP 0 rfl rfl 1 (by decide) (hts (.fieldLink RY1 23 "CoefTurnsModel" "w" "I") (by decide +kernel)) (fun _ h9 => h9) rfl dY1_crop_26 ?_
          refine lv_icmp_gt (tgt := 62) hx hb dY1_crop_29 (by decide) (fun c29 => ?_) (fun c29 => ?_)
          · skip
            have c29 := (nI_ltI (a := w) (b := A9) (by omega) (by omega)).mp c29
            refine lv_iconst (v := nI 0) hx hb dY1_crop_62 (by decide +kernel) ?_
            have hP9 := hP.sub (ws' := [(o, .inr (1, [.int (nI 0), .int (nI w), .int (nI h), .int (nI kw), .int (nI kh), .ref b1, .ref b2, .ref b3])), (b1, .inl (cC, 4096, .inl f)), (b2, .inl (cD, 4096, .inl g)), (b3, .inl (cE, 4096, .inl md))]) [0, 1, 2, 3] rfl
            have hD9 := hD.sub (ws' := [(o, .inr (1, [.int (nI 0), .int (nI w), .int (nI h), .int (nI kw), .int (nI kh), .ref b1, .ref b2, .ref b3])), (b1, .inl (cC, 4096, .inl f)), (b2, .inl (cD, 4096, .inl g)), (b3, .inl (cE, 4096, .inl md))]) [0, 1, 2, 3] (by decide) rfl
            exact W.zret (ty := .boolean) hx hb hr rfl (fun t ht hW => ⟨⟨_, (f, md, w, h), rfl, (Or.inl ⟨rfl, (by first | exact cf_no1 hw hh (Or.inl c6) | exact cf_no1 hw hh (Or.inr (Or.inl c10)) | exact cf_no1 hw hh (Or.inr (Or.inr (Or.inl c15))) | exact cf_no1 hw hh (Or.inr (Or.inr (Or.inr c21))) | (rw [eX, eY, eA, eB]; exact cf_no2 hX hY hA9 hB9 hw hh (by omega))), rfl, rfl, rfl⟩), by rw [ht]; exact hP9, va_K.moved hW.alike hK, hD9⟩, hS.F ht⟩) hS.2.2 dY1_crop_63
          · skip
            have c29 := mt (nI_ltI (a := w) (b := A9) (by omega) (by omega)).mpr c29
            refine lv_iload hx hb dY1_crop_32 (lv_at hl 4 rfl) ?_
            refine cf_top eB ?_
            refine lv_aload_n hx hb dY1_crop_34 rfl (lv_at hl 0 rfl) ?_
            refine va_get (D := (dC, dI)) (ci := 1) (v := .int (nI h)) (C := RY1) (T := TY1) (N := 8) hx hb hts (by decide +kernel) hown hK hP 0 rfl rfl 2 (by decide) (hts (.fieldLink RY1 27 "CoefTurnsModel" "h" "I") (by decide +kernel)) (fun _ h9 => h9) rfl dY1_crop_35 ?_
            refine lv_icmp_gt (tgt := 62) hx hb dY1_crop_38 (by decide) (fun c38 => ?_) (fun c38 => ?_)
            · skip
              have c38 := (nI_ltI (a := h) (b := B9) (by omega) (by omega)).mp c38
              refine lv_iconst (v := nI 0) hx hb dY1_crop_62 (by decide +kernel) ?_
              have hP9 := hP.sub (ws' := [(o, .inr (1, [.int (nI 0), .int (nI w), .int (nI h), .int (nI kw), .int (nI kh), .ref b1, .ref b2, .ref b3])), (b1, .inl (cC, 4096, .inl f)), (b2, .inl (cD, 4096, .inl g)), (b3, .inl (cE, 4096, .inl md))]) [0, 1, 2, 3] rfl
              have hD9 := hD.sub (ws' := [(o, .inr (1, [.int (nI 0), .int (nI w), .int (nI h), .int (nI kw), .int (nI kh), .ref b1, .ref b2, .ref b3])), (b1, .inl (cC, 4096, .inl f)), (b2, .inl (cD, 4096, .inl g)), (b3, .inl (cE, 4096, .inl md))]) [0, 1, 2, 3] (by decide) rfl
              exact W.zret (ty := .boolean) hx hb hr rfl (fun t ht hW => ⟨⟨_, (f, md, w, h), rfl, (Or.inl ⟨rfl, (by first | exact cf_no1 hw hh (Or.inl c6) | exact cf_no1 hw hh (Or.inr (Or.inl c10)) | exact cf_no1 hw hh (Or.inr (Or.inr (Or.inl c15))) | exact cf_no1 hw hh (Or.inr (Or.inr (Or.inr c21))) | (rw [eX, eY, eA, eB]; exact cf_no2 hX hY hA9 hB9 hw hh (by omega))), rfl, rfl, rfl⟩), by rw [ht]; exact hP9, va_K.moved hW.alike hK, hD9⟩, hS.F ht⟩) hS.2.2 dY1_crop_63
            · skip
              have c38 := mt (nI_ltI (a := h) (b := B9) (by omega) (by omega)).mpr c38
              refine lv_iload_n hx hb dY1_crop_41 rfl (lv_at hl 1 rfl) ?_
              refine cf_top eX ?_
              refine lv_aload_n hx hb dY1_crop_42 rfl (lv_at hl 0 rfl) ?_
              refine va_get (D := (dC, dI)) (ci := 1) (v := .int (nI w)) (C := RY1) (T := TY1) (N := 8) hx hb hts (by decide +kernel) hown hK hP 0 rfl rfl 1 (by decide) (hts (.fieldLink RY1 23 "CoefTurnsModel" "w" "I") (by decide +kernel)) (fun _ h9 => h9) rfl dY1_crop_43 ?_
              refine lv_iload_n hx hb dY1_crop_46 rfl (lv_at hl 3 rfl) ?_
              refine cf_top eA ?_
              refine lv_isub hx hb dY1_crop_47 ?_
              refine cf_top (pk_sub (by omega)) ?_
              refine lv_icmp_gt (tgt := 62) hx hb dY1_crop_48 (by decide) (fun c48 => ?_) (fun c48 => ?_)
              · skip
                have c48 := (nI_ltI (a := w - A9) (b := X) (by omega) (by omega)).mp c48
                refine lv_iconst (v := nI 0) hx hb dY1_crop_62 (by decide +kernel) ?_
                have hP9 := hP.sub (ws' := [(o, .inr (1, [.int (nI 0), .int (nI w), .int (nI h), .int (nI kw), .int (nI kh), .ref b1, .ref b2, .ref b3])), (b1, .inl (cC, 4096, .inl f)), (b2, .inl (cD, 4096, .inl g)), (b3, .inl (cE, 4096, .inl md))]) [0, 1, 2, 3] rfl
                have hD9 := hD.sub (ws' := [(o, .inr (1, [.int (nI 0), .int (nI w), .int (nI h), .int (nI kw), .int (nI kh), .ref b1, .ref b2, .ref b3])), (b1, .inl (cC, 4096, .inl f)), (b2, .inl (cD, 4096, .inl g)), (b3, .inl (cE, 4096, .inl md))]) [0, 1, 2, 3] (by decide) rfl
                exact W.zret (ty := .boolean) hx hb hr rfl (fun t ht hW => ⟨⟨_, (f, md, w, h), rfl, (Or.inl ⟨rfl, (by first | exact cf_no1 hw hh (Or.inl c6) | exact cf_no1 hw hh (Or.inr (Or.inl c10)) | exact cf_no1 hw hh (Or.inr (Or.inr (Or.inl c15))) | exact cf_no1 hw hh (Or.inr (Or.inr (Or.inr c21))) | (rw [eX, eY, eA, eB]; exact cf_no2 hX hY hA9 hB9 hw hh (by omega))), rfl, rfl, rfl⟩), by rw [ht]; exact hP9, va_K.moved hW.alike hK, hD9⟩, hS.F ht⟩) hS.2.2 dY1_crop_63
              · skip
                have c48 := mt (nI_ltI (a := w - A9) (b := X) (by omega) (by omega)).mpr c48
                refine lv_iload_n hx hb dY1_crop_51 rfl (lv_at hl 2 rfl) ?_
                refine cf_top eY ?_
                refine lv_aload_n hx hb dY1_crop_52 rfl (lv_at hl 0 rfl) ?_
                refine va_get (D := (dC, dI)) (ci := 1) (v := .int (nI h)) (C := RY1) (T := TY1) (N := 8) hx hb hts (by decide +kernel) hown hK hP 0 rfl rfl 2 (by decide) (hts (.fieldLink RY1 27 "CoefTurnsModel" "h" "I") (by decide +kernel)) (fun _ h9 => h9) rfl dY1_crop_53 ?_
                refine lv_iload hx hb dY1_crop_56 (lv_at hl 4 rfl) ?_
                refine cf_top eB ?_
                refine lv_isub hx hb dY1_crop_58 ?_
                refine cf_top (pk_sub (by omega)) ?_
                refine lv_icmp_le (tgt := 64) hx hb dY1_crop_59 (by decide) (fun c59 => ?_) (fun c59 => ?_)
                · skip
                  have c59 := (nI_leI (a := Y) (b := h - B9) (by omega) (by omega)).mp c59
                  refine lv_iconst (v := nI 0) hx hb dY1_crop_64 (by decide +kernel) ?_
                  refine lv_istore (lv' := [(5, .int (nI 0)), (0, .ref o), (1, .int x), (2, .int y), (3, .int a), (4, .int b)]) hx hb dY1_crop_65 hl (by decide) rfl (fun ls hl => ?_)
                  have lp67 : ∀ (n67 : Nat) (y0 : Nat) (m0 : Nat → Int32), y0 ≤ B9 → B9 < y0 + n67 → cf_dn A9 y0 0 0 m0 (cf_cr X Y (cf_V f)) → ∀ (H : Heap) (locs : List Loc), va_P (dC, dI) vwCm [(o, .inr (1, [.int (nI 0), .int (nI w), .int (nI h), .int (nI kw), .int (nI kh), .ref b1, .ref b2, .ref b3])), (b1, .inl (cC, 4096, .inl f)), (b2, .inl (cD, 4096, .inl g)), (b3, .inl (cE, 4096, .inl m0))] H → va_D A [(o, .inr (1, [.int (nI 0), .int (nI w), .int (nI h), .int (nI kw), .int (nI kh), .ref b1, .ref b2, .ref b3])), (b1, .inl (cC, 4096, .inl f)), (b2, .inl (cD, 4096, .inl g)), (b3, .inl (cE, 4096, .inl m0))] → va_S A s.heap H locs → ∀ (ls : Array Slot), lv_has ls 8 [(0, .ref o), (1, .int x), (2, .int y), (3, .int a), (4, .int b), (5, .int (nI y0))] → W p l e (headSpec wsY1_crop ({ frames := 1, cells := 0, slots := 0, locals := 23 })).room s m ([.ref o, .int x, .int y, .int a, .int b] : List Value).toArray below meth c H locs 0 0 (MQ below (va_Qi (fun (r : Int32) (u : (Nat → Int32) × (Nat → Int32) × Nat × Nat) => (r = nI 0 ∧ (¬ ∃ X Y A B, cf_ok w h x y a b X Y A B) ∧ u.1 = f ∧ u.2.2.1 = w ∧ u.2.2.2 = h) ∨ (r = nI 1 ∧ ∃ X Y, cf_ok w h x y a b X Y u.2.2.1 u.2.2.2 ∧ cf_Ag u.2.2.1 u.2.2.2 (cf_V u.1) (cf_cr X Y (cf_V f)))) (fun (u : (Nat → Int32) × (Nat → Int32) × Nat × Nat) (t : State) => va_P (dC, dI) vwCm [(o, .inr (1, [.int (nI 0), .int (nI u.2.2.1), .int (nI u.2.2.2), .int (nI kw), .int (nI kh), .ref b1, .ref b2, .ref b3])), (b1, .inl (cC, 4096, .inl u.1)), (b2, .inl (cD, 4096, .inl g)), (b3, .inl (cE, 4096, .inl u.2.1))] t.heap ∧ va_K (dC, dI) vwCm [(cC, .int), (cD, .int), (cE, .int)] t ∧ va_D A [(o, .inr (1, [.int (nI 0), .int (nI u.2.2.1), .int (nI u.2.2.2), .int (nI kw), .int (nI kh), .ref b1, .ref b2, .ref b3])), (b1, .inl (cC, 4096, .inl u.1)), (b2, .inl (cD, 4096, .inl g)), (b3, .inl (cE, 4096, .inl u.2.1))]) A) ([.ref o, .int x, .int y, .int a, .int b] : List Value).toArray s 0 0 A) (F0 m 67 ls []) := by
                    intro n67
                    induction n67 with
                    | zero => intro y0 m0 h1 h2; exact absurd h2 (by omega)
                    | succ n67 ih67 =>
                      intro y0 m0 hk67 hn67 hI H locs hP hD hS ls hl
                      refine lv_iload hx hb dY1_crop_67 (lv_at hl 5 rfl) ?_
                      refine lv_iload hx hb dY1_crop_69 (lv_at hl 4 rfl) ?_
                      refine cf_top eB ?_
                      refine lv_icmp_ge (tgt := 145) hx hb dY1_crop_71 (by decide) (fun c71 => ?_) (fun c71 => ?_)
                      · skip
                        have c71 := (nI_leI (a := B9) (b := y0) (by omega) (by omega)).mp c71
                        refine lv_aload_n hx hb dY1_crop_145 rfl (lv_at hl 0 rfl) ?_
                        refine lv_iload_n hx hb dY1_crop_146 rfl (lv_at hl 3 rfl) ?_
                        refine cf_top eA ?_
                        refine lv_iload hx hb dY1_crop_147 (lv_at hl 4 rfl) ?_
                        refine cf_top eB ?_
                        have hPc := hP.sub (ws' := [(o, .inr (1, [.int (nI 0), .int (nI w), .int (nI h), .int (nI kw), .int (nI kh), .ref b1, .ref b2, .ref b3])), (b1, .inl (cC, 4096, .inl f)), (b2, .inl (cD, 4096, .inl g)), (b3, .inl (cE, 4096, .inl m0))]) [0, 1, 2, 3] rfl
                        have hKc := hK.sub (tys' := [(cC, .int), (cD, .int), (cE, .int)]) [0, 1, 2] rfl
                        have hDc := hD.sub (ws' := [(o, .inr (1, [.int (nI 0), .int (nI w), .int (nI h), .int (nI kw), .int (nI kh), .ref b1, .ref b2, .ref b3])), (b1, .inl (cC, 4096, .inl f)), (b2, .inl (cD, 4096, .inl g)), (b3, .inl (cE, 4096, .inl m0))]) [0, 1, 2, 3] (by decide) rfl
                        have hFc := va_free (wc := [(o, .inr (1, [.int (nI 0), .int (nI w), .int (nI h), .int (nI kw), .int (nI kh), .ref b1, .ref b2, .ref b3])), (b1, .inl (cC, 4096, .inl f)), (b2, .inl (cD, 4096, .inl g)), (b3, .inl (cE, 4096, .inl m0))]) hD hS hA [0, 1, 2, 3] rfl
                        refine va_callv (va_runV (As := [.int (nI A9), .int (nI B9)]) (rest := []) ⟨hx, hb, hml, hown, hts⟩ (kY1_become l dC dI H.size o b1 b2 b3 cC cD cE f g m0 (nI 0) w h kw kh A9 B9) (cwV 2 hts gY1_crop_Y1_become rfl rfl rfl (by decide +kernel) ⟨Nat.le_of_ble_eq_true rfl, Nat.le_of_ble_eq_true rfl⟩) ⟨fun a U g mk q => by obtain ⟨q0, q1, qP, qK, qD⟩ := q; exact ⟨q0, q1, qP, va_K.moved (u := U) (U := U.calling g mk a) (Vm.Alike.refl U.vm) qK, qD⟩, va_recv hKc hPc (ci := 1) (q0 := 0) rfl rfl, fun U hU hW => ⟨rfl, by rw [hU], by rw [hU]; exact hPc, va_K.moved hW.alike hKc, hDc.weaken (fun _ _ _ _ => trivial)⟩⟩ rfl rfl hl.1 rfl (lv_room (Nat.le_of_ble_eq_true rfl)) dY1_crop_149 ⟨Nat.le_of_ble_eq_true rfl, Nat.le_of_ble_eq_true rfl⟩) hS (fun q _ h => hFc q h) hFc (fun u149 t H1 locs ht hvm w149 hB hz1 hk1 hS => ?_)
                        obtain ⟨hP1, -, hD1⟩ := hB
                        rw [ht] at hP1
                        try dsimp only at w149
                        obtain ⟨hP, hD⟩ := va_join (wr := []) (w1 := [(o, .inr (1, [.int (nI 0), .int (nI A9), .int (nI B9), .int (nI kw), .int (nI kh), .ref b1, .ref b2, .ref b3])), (b1, .inl (cC, 4096, .inl u149)), (b2, .inl (cD, 4096, .inl g)), (b3, .inl (cE, 4096, .inl m0))]) hP hD [0, 1, 2, 3] [] rfl rfl (by decide) (by decide) hk1 hFc hP1 hD1
                        generalize H1 = H at hP hS ⊢
                        have hP : va_P (dC, dI) vwCm [(o, .inr (1, [.int (nI 0), .int (nI A9), .int (nI B9), .int (nI kw), .int (nI kh), .ref b1, .ref b2, .ref b3])), (b1, .inl (cC, 4096, .inl u149)), (b2, .inl (cD, 4096, .inl g)), (b3, .inl (cE, 4096, .inl m0))] H := hP
                        have hD : va_D A [(o, .inr (1, [.int (nI 0), .int (nI A9), .int (nI B9), .int (nI kw), .int (nI kh), .ref b1, .ref b2, .ref b3])), (b1, .inl (cC, 4096, .inl u149)), (b2, .inl (cD, 4096, .inl g)), (b3, .inl (cE, 4096, .inl m0))] := hD
                        refine lv_iconst (v := nI 1) hx hb dY1_crop_152 (by decide +kernel) ?_
                        have hP9 := hP.sub (ws' := [(o, .inr (1, [.int (nI 0), .int (nI A9), .int (nI B9), .int (nI kw), .int (nI kh), .ref b1, .ref b2, .ref b3])), (b1, .inl (cC, 4096, .inl u149)), (b2, .inl (cD, 4096, .inl g)), (b3, .inl (cE, 4096, .inl m0))]) [0, 1, 2, 3] rfl
                        have hD9 := hD.sub (ws' := [(o, .inr (1, [.int (nI 0), .int (nI A9), .int (nI B9), .int (nI kw), .int (nI kh), .ref b1, .ref b2, .ref b3])), (b1, .inl (cC, 4096, .inl u149)), (b2, .inl (cD, 4096, .inl g)), (b3, .inl (cE, 4096, .inl m0))]) [0, 1, 2, 3] (by decide) rfl
                        exact W.zret (ty := .boolean) hx hb hr rfl (fun t ht hW => ⟨⟨_, (u149, m0, A9, B9), rfl, (Or.inr ⟨rfl, X, Y, ⟨eX, eY, eA, eB, show X + A9 ≤ w by omega, show Y + B9 ≤ h by omega, hA1, hB1⟩, by have e : y0 = B9 := (by omega); rw [e] at hI; exact (cf_cp_ag (w := A9) (h := B9) w149 (by omega) (by omega)).tr (cf_dn_e hI)⟩), by rw [ht]; exact hP9, va_K.moved hW.alike hK, hD9⟩, hS.F ht⟩) hS.2.2 dY1_crop_153
                      · skip
                        have c71 := mt (nI_leI (a := B9) (b := y0) (by omega) (by omega)).mpr c71
                        refine lv_iconst (v := nI 0) hx hb dY1_crop_74 (by decide +kernel) ?_
                        refine lv_istore (lv' := [(6, .int (nI 0)), (0, .ref o), (1, .int x), (2, .int y), (3, .int a), (4, .int b), (5, .int (nI y0))]) hx hb dY1_crop_75 hl (by decide) rfl (fun ls hl => ?_)
                        have lp77 : ∀ (n77 : Nat) (x0 : Nat) (m1 : Nat → Int32), x0 ≤ A9 → A9 < x0 + n77 → cf_dn A9 y0 x0 0 m1 (cf_cr X Y (cf_V f)) → ∀ (H : Heap) (locs : List Loc), va_P (dC, dI) vwCm [(o, .inr (1, [.int (nI 0), .int (nI w), .int (nI h), .int (nI kw), .int (nI kh), .ref b1, .ref b2, .ref b3])), (b1, .inl (cC, 4096, .inl f)), (b2, .inl (cD, 4096, .inl g)), (b3, .inl (cE, 4096, .inl m1))] H → va_D A [(o, .inr (1, [.int (nI 0), .int (nI w), .int (nI h), .int (nI kw), .int (nI kh), .ref b1, .ref b2, .ref b3])), (b1, .inl (cC, 4096, .inl f)), (b2, .inl (cD, 4096, .inl g)), (b3, .inl (cE, 4096, .inl m1))] → va_S A s.heap H locs → ∀ (ls : Array Slot), lv_has ls 8 [(0, .ref o), (1, .int x), (2, .int y), (3, .int a), (4, .int b), (5, .int (nI y0)), (6, .int (nI x0))] → W p l e (headSpec wsY1_crop ({ frames := 1, cells := 0, slots := 0, locals := 23 })).room s m ([.ref o, .int x, .int y, .int a, .int b] : List Value).toArray below meth c H locs 0 0 (MQ below (va_Qi (fun (r : Int32) (u : (Nat → Int32) × (Nat → Int32) × Nat × Nat) => (r = nI 0 ∧ (¬ ∃ X Y A B, cf_ok w h x y a b X Y A B) ∧ u.1 = f ∧ u.2.2.1 = w ∧ u.2.2.2 = h) ∨ (r = nI 1 ∧ ∃ X Y, cf_ok w h x y a b X Y u.2.2.1 u.2.2.2 ∧ cf_Ag u.2.2.1 u.2.2.2 (cf_V u.1) (cf_cr X Y (cf_V f)))) (fun (u : (Nat → Int32) × (Nat → Int32) × Nat × Nat) (t : State) => va_P (dC, dI) vwCm [(o, .inr (1, [.int (nI 0), .int (nI u.2.2.1), .int (nI u.2.2.2), .int (nI kw), .int (nI kh), .ref b1, .ref b2, .ref b3])), (b1, .inl (cC, 4096, .inl u.1)), (b2, .inl (cD, 4096, .inl g)), (b3, .inl (cE, 4096, .inl u.2.1))] t.heap ∧ va_K (dC, dI) vwCm [(cC, .int), (cD, .int), (cE, .int)] t ∧ va_D A [(o, .inr (1, [.int (nI 0), .int (nI u.2.2.1), .int (nI u.2.2.2), .int (nI kw), .int (nI kh), .ref b1, .ref b2, .ref b3])), (b1, .inl (cC, 4096, .inl u.1)), (b2, .inl (cD, 4096, .inl g)), (b3, .inl (cE, 4096, .inl u.2.1))]) A) ([.ref o, .int x, .int y, .int a, .int b] : List Value).toArray s 0 0 A) (F0 m 77 ls []) := by
                          intro n77
                          induction n77 with
                          | zero => intro x0 m1 h1 h2; exact absurd h2 (by omega)
                          | succ n77 ih77 =>
                            intro x0 m1 hk77 hn77 hI1 H locs hP hD hS ls hl
                            refine lv_iload hx hb dY1_crop_77 (lv_at hl 6 rfl) ?_
                            refine lv_iload_n hx hb dY1_crop_79 rfl (lv_at hl 3 rfl) ?_
                            refine cf_top eA ?_
                            refine lv_icmp_ge (tgt := 139) hx hb dY1_crop_80 (by decide) (fun c80 => ?_) (fun c80 => ?_)
                            · skip
                              have c80 := (nI_leI (a := A9) (b := x0) (by omega) (by omega)).mp c80
                              refine lv_iinc (v := nI (y0 + 1)) (lv' := [(5, .int (nI (y0 + 1))), (0, .ref o), (1, .int x), (2, .int y), (3, .int a), (4, .int b), (6, .int (nI x0))]) hx hb dY1_crop_139 hl (k := 5) rfl (by rw [← nI_add]; rfl) (by decide) rfl (fun ls hl => ?_)
                              refine lv_goto (tgt := 67) hx hb dY1_crop_142 (by decide) ?_
                              exact ih67 (y0 + 1) m1 (by omega) (by omega) (cf_dn_r hI1 (by omega)) H locs hP hD hS ls (lv_sub hl [1, 2, 3, 4, 5, 0] rfl)
                            · skip
                              have c80 := mt (nI_leI (a := A9) (b := x0) (by omega) (by omega)).mpr c80
                              refine lv_iconst (v := nI 0) hx hb dY1_crop_83 (by decide +kernel) ?_
                              refine lv_istore (lv' := [(7, .int (nI 0)), (0, .ref o), (1, .int x), (2, .int y), (3, .int a), (4, .int b), (5, .int (nI y0)), (6, .int (nI x0))]) hx hb dY1_crop_84 hl (by decide) rfl (fun ls hl => ?_)
                              have lp86 : ∀ (n86 : Nat) (p0 : Nat) (m2 : Nat → Int32), p0 ≤ 64 → 64 < p0 + n86 → cf_dn A9 y0 x0 p0 m2 (cf_cr X Y (cf_V f)) → ∀ (H : Heap) (locs : List Loc), va_P (dC, dI) vwCm [(o, .inr (1, [.int (nI 0), .int (nI w), .int (nI h), .int (nI kw), .int (nI kh), .ref b1, .ref b2, .ref b3])), (b1, .inl (cC, 4096, .inl f)), (b2, .inl (cD, 4096, .inl g)), (b3, .inl (cE, 4096, .inl m2))] H → va_D A [(o, .inr (1, [.int (nI 0), .int (nI w), .int (nI h), .int (nI kw), .int (nI kh), .ref b1, .ref b2, .ref b3])), (b1, .inl (cC, 4096, .inl f)), (b2, .inl (cD, 4096, .inl g)), (b3, .inl (cE, 4096, .inl m2))] → va_S A s.heap H locs → ∀ (ls : Array Slot), lv_has ls 8 [(0, .ref o), (1, .int x), (2, .int y), (3, .int a), (4, .int b), (5, .int (nI y0)), (6, .int (nI x0)), (7, .int (nI p0))] → W p l e (headSpec wsY1_crop ({ frames := 1, cells := 0, slots := 0, locals := 23 })).room s m ([.ref o, .int x, .int y, .int a, .int b] : List Value).toArray below meth c H locs 0 0 (MQ below (va_Qi (fun (r : Int32) (u : (Nat → Int32) × (Nat → Int32) × Nat × Nat) => (r = nI 0 ∧ (¬ ∃ X Y A B, cf_ok w h x y a b X Y A B) ∧ u.1 = f ∧ u.2.2.1 = w ∧ u.2.2.2 = h) ∨ (r = nI 1 ∧ ∃ X Y, cf_ok w h x y a b X Y u.2.2.1 u.2.2.2 ∧ cf_Ag u.2.2.1 u.2.2.2 (cf_V u.1) (cf_cr X Y (cf_V f)))) (fun (u : (Nat → Int32) × (Nat → Int32) × Nat × Nat) (t : State) => va_P (dC, dI) vwCm [(o, .inr (1, [.int (nI 0), .int (nI u.2.2.1), .int (nI u.2.2.2), .int (nI kw), .int (nI kh), .ref b1, .ref b2, .ref b3])), (b1, .inl (cC, 4096, .inl u.1)), (b2, .inl (cD, 4096, .inl g)), (b3, .inl (cE, 4096, .inl u.2.1))] t.heap ∧ va_K (dC, dI) vwCm [(cC, .int), (cD, .int), (cE, .int)] t ∧ va_D A [(o, .inr (1, [.int (nI 0), .int (nI u.2.2.1), .int (nI u.2.2.2), .int (nI kw), .int (nI kh), .ref b1, .ref b2, .ref b3])), (b1, .inl (cC, 4096, .inl u.1)), (b2, .inl (cD, 4096, .inl g)), (b3, .inl (cE, 4096, .inl u.2.1))]) A) ([.ref o, .int x, .int y, .int a, .int b] : List Value).toArray s 0 0 A) (F0 m 86 ls []) := by
                                intro n86
                                induction n86 with
                                | zero => intro p0 m2 h1 h2; exact absurd h2 (by omega)
                                | succ n86 ih86 =>
                                  intro p0 m2 hk86 hn86 hI2 H locs hP hD hS ls hl
                                  refine lv_iload hx hb dY1_crop_86 (lv_at hl 7 rfl) ?_
                                  refine lv_bipush (v := nI 64) hx hb dY1_crop_88 (by decide +kernel) ?_
                                  refine lv_icmp_ge (tgt := 133) hx hb dY1_crop_90 (by decide) (fun c90 => ?_) (fun c90 => ?_)
                                  · skip
                                    have c90 := (nI_leI (a := 64) (b := p0) (by omega) (by omega)).mp c90
                                    refine lv_iinc (v := nI (x0 + 1)) (lv' := [(6, .int (nI (x0 + 1))), (0, .ref o), (1, .int x), (2, .int y), (3, .int a), (4, .int b), (5, .int (nI y0)), (7, .int (nI p0))]) hx hb dY1_crop_133 hl (k := 6) rfl (by rw [← nI_add]; rfl) (by decide) rfl (fun ls hl => ?_)
                                    refine lv_goto (tgt := 77) hx hb dY1_crop_136 (by decide) ?_
                                    exact ih77 (x0 + 1) m2 (by omega) (by omega) (cf_dn_b hI2 (by omega)) H locs hP hD hS ls (lv_sub hl [1, 2, 3, 4, 5, 6, 0] rfl)
                                  · skip
                                    have c90 := mt (nI_leI (a := 64) (b := p0) (by omega) (by omega)).mpr c90
                                    refine lv_aload_n hx hb dY1_crop_93 rfl (lv_at hl 0 rfl) ?_
                                    refine va_get (D := (dC, dI)) (ci := 1) (v := .ref b3) (C := RY1) (T := TY1) (N := 8) hx hb hts (by decide +kernel) hown hK hP 0 rfl rfl 7 (by decide) (hts (.fieldLink RY1 16 "CoefTurnsModel" "moved" "[I") (by decide +kernel)) (fun _ h9 => h9) rfl dY1_crop_94 ?_
                                    refine lv_iload hx hb dY1_crop_97 (lv_at hl 6 rfl) ?_
                                    refine lv_iload hx hb dY1_crop_99 (lv_at hl 5 rfl) ?_
                                    refine vp_callSi (W.runS (As := [.int (nI x0), .int (nI y0)]) (rest := [.ref b3]) ⟨hx, hb, hml, hown, hts⟩ (kY1_block l x0 y0) (va_cwS 2 hts gY1_crop_Y1_block rfl rfl rfl (by decide +kernel) ⟨Nat.le_of_ble_eq_true rfl, Nat.le_of_ble_eq_true rfl⟩) ⟨fun a U g mk q => q, fun U hU hW => ⟨rfl, trivial⟩⟩ rfl rfl hl.1 rfl (lv_room (Nat.le_of_ble_eq_true rfl)) dY1_crop_101 ⟨Nat.le_of_ble_eq_true rfl, Nat.le_of_ble_eq_true rfl⟩) (fun r101 w101 => ?_)
                                    subst w101
                                    refine lv_iload hx hb dY1_crop_104 (lv_at hl 7 rfl) ?_
                                    refine lv_iadd hx hb dY1_crop_106 ?_
                                    refine cf_top (nI_add _ _) ?_
                                    refine lv_aload_n hx hb dY1_crop_107 rfl (lv_at hl 0 rfl) ?_
                                    refine va_get (D := (dC, dI)) (ci := 1) (v := .ref b1) (C := RY1) (T := TY1) (N := 8) hx hb hts (by decide +kernel) hown hK hP 0 rfl rfl 5 (by decide) (hts (.fieldLink RY1 7 "CoefTurnsModel" "plane" "[I") (by decide +kernel)) (fun _ h9 => h9) rfl dY1_crop_108 ?_
                                    refine lv_iload_n hx hb dY1_crop_111 rfl (lv_at hl 1 rfl) ?_
                                    refine cf_top eX ?_
                                    refine lv_iload hx hb dY1_crop_112 (lv_at hl 6 rfl) ?_
                                    refine lv_iadd hx hb dY1_crop_114 ?_
                                    refine cf_top (nI_add _ _) ?_
                                    refine lv_iload_n hx hb dY1_crop_115 rfl (lv_at hl 2 rfl) ?_
                                    refine cf_top eY ?_
                                    refine lv_iload hx hb dY1_crop_116 (lv_at hl 5 rfl) ?_
                                    refine lv_iadd hx hb dY1_crop_118 ?_
                                    refine cf_top (nI_add _ _) ?_
                                    refine vp_callSi (W.runS (As := [.int (nI (X + x0)), .int (nI (Y + y0))]) (rest := [.ref b1, .int (nI (64 * (8 * y0 + x0) + p0)), .ref b3]) ⟨hx, hb, hml, hown, hts⟩ (kY1_block l (X + x0) (Y + y0)) (va_cwS 2 hts gY1_crop_Y1_block rfl rfl rfl (by decide +kernel) ⟨Nat.le_of_ble_eq_true rfl, Nat.le_of_ble_eq_true rfl⟩) ⟨fun a U g mk q => q, fun U hU hW => ⟨rfl, trivial⟩⟩ rfl rfl hl.1 rfl (lv_room (Nat.le_of_ble_eq_true rfl)) dY1_crop_119 ⟨Nat.le_of_ble_eq_true rfl, Nat.le_of_ble_eq_true rfl⟩) (fun r119 w119 => ?_)
                                    subst w119
                                    refine lv_iload hx hb dY1_crop_122 (lv_at hl 7 rfl) ?_
                                    refine lv_iadd hx hb dY1_crop_124 ?_
                                    refine cf_top (nI_add _ _) ?_
                                    refine cf_iald (D := (dC, dI)) hx hb hK hP 1 0 rfl rfl (k := 64 * (8 * (Y + y0) + (X + x0)) + p0) (by omega) (by decide) dY1_crop_125 ?_
                                    refine cf_iast (D := (dC, dI)) hx hb hK hP hD hS 3 2 rfl rfl (k := 64 * (8 * y0 + x0) + p0) (by omega) (by decide) dY1_crop_126 (fun H locs hP hD hS => ?_)
                                    have hP : va_P (dC, dI) vwCm [(o, .inr (1, [.int (nI 0), .int (nI w), .int (nI h), .int (nI kw), .int (nI kh), .ref b1, .ref b2, .ref b3])), (b1, .inl (cC, 4096, .inl f)), (b2, .inl (cD, 4096, .inl g)), (b3, .inl (cE, 4096, .inl (upd m2 (64 * (8 * y0 + x0) + p0) (f (64 * (8 * (Y + y0) + (X + x0)) + p0)))))] H := hP
                                    have hD : va_D A [(o, .inr (1, [.int (nI 0), .int (nI w), .int (nI h), .int (nI kw), .int (nI kh), .ref b1, .ref b2, .ref b3])), (b1, .inl (cC, 4096, .inl f)), (b2, .inl (cD, 4096, .inl g)), (b3, .inl (cE, 4096, .inl (upd m2 (64 * (8 * y0 + x0) + p0) (f (64 * (8 * (Y + y0) + (X + x0)) + p0)))))] := hD
                                    refine lv_iinc (v := nI (p0 + 1)) (lv' := [(7, .int (nI (p0 + 1))), (0, .ref o), (1, .int x), (2, .int y), (3, .int a), (4, .int b), (5, .int (nI y0)), (6, .int (nI x0))]) hx hb dY1_crop_127 hl (k := 7) rfl (by rw [← nI_add]; rfl) (by decide) rfl (fun ls hl => ?_)
                                    refine lv_goto (tgt := 86) hx hb dY1_crop_130 (by decide) ?_
                                    exact ih86 (p0 + 1) (upd m2 (64 * (8 * y0 + x0) + p0) (f (64 * (8 * (Y + y0) + (X + x0)) + p0))) (by omega) (by omega) (cf_dn_s hI2 (by omega) (by omega) (by omega) rfl) H locs hP hD hS ls (lv_sub hl [1, 2, 3, 4, 5, 6, 7, 0] rfl)
                              exact lp86 (64 + 1) 0 m1 (by omega) (by omega) hI1 H locs hP hD hS ls (lv_sub hl [1, 2, 3, 4, 5, 6, 7, 0] rfl)
                        exact lp77 (A9 + 1) 0 m0 (by omega) (by omega) hI H locs hP hD hS ls (lv_sub hl [1, 2, 3, 4, 5, 6, 0] rfl)
                  exact lp67 (B9 + 1) 0 md (by omega) (by omega) cf_dn_0 H locs hP hD hS ls (lv_sub hl [1, 2, 3, 4, 5, 0] rfl)
                · skip
                  have c59 := mt (nI_leI (a := Y) (b := h - B9) (by omega) (by omega)).mpr c59
                  refine lv_iconst (v := nI 0) hx hb dY1_crop_62 (by decide +kernel) ?_
                  have hP9 := hP.sub (ws' := [(o, .inr (1, [.int (nI 0), .int (nI w), .int (nI h), .int (nI kw), .int (nI kh), .ref b1, .ref b2, .ref b3])), (b1, .inl (cC, 4096, .inl f)), (b2, .inl (cD, 4096, .inl g)), (b3, .inl (cE, 4096, .inl md))]) [0, 1, 2, 3] rfl
                  have hD9 := hD.sub (ws' := [(o, .inr (1, [.int (nI 0), .int (nI w), .int (nI h), .int (nI kw), .int (nI kh), .ref b1, .ref b2, .ref b3])), (b1, .inl (cC, 4096, .inl f)), (b2, .inl (cD, 4096, .inl g)), (b3, .inl (cE, 4096, .inl md))]) [0, 1, 2, 3] (by decide) rfl
                  exact W.zret (ty := .boolean) hx hb hr rfl (fun t ht hW => ⟨⟨_, (f, md, w, h), rfl, (Or.inl ⟨rfl, (by first | exact cf_no1 hw hh (Or.inl c6) | exact cf_no1 hw hh (Or.inr (Or.inl c10)) | exact cf_no1 hw hh (Or.inr (Or.inr (Or.inl c15))) | exact cf_no1 hw hh (Or.inr (Or.inr (Or.inr c21))) | (rw [eX, eY, eA, eB]; exact cf_no2 hX hY hA9 hB9 hw hh (by omega))), rfl, rfl, rfl⟩), by rw [ht]; exact hP9, va_K.moved hW.alike hK, hD9⟩, hS.F ht⟩) hS.2.2 dY1_crop_63
set_option maxHeartbeats 4000000 in
set_option maxRecDepth 100000 in
/-- Y1_differ -/
theorem kY1_differ (l : Launch) (dC : Nat → ClassId) (dI : Nat → Nat → Nat) (sz : Nat) (o b1 b2 b3 : Nat) (cC cD cE : ClassId) (f g md : Nat → Int32) (th : Int32) (w h kw kh : Nat) (hw : w ≤ 8) (hh : h ≤ 8) (hkw : kw ≤ 8) (hkh : kh ≤ 8) : Met l yY1_differ wsY1_differ ({ frames := 1, cells := 0, slots := 0, locals := 21 }) (va_Pc [.ref o] (fun U => U.heap.size = sz ∧ va_P (dC, dI) vwCm [(o, .inr (1, [.int th, .int (nI w), .int (nI h), .int (nI kw), .int (nI kh), .ref b1, .ref b2, .ref b3])), (b1, .inl (cC, 4096, .inl f)), (b2, .inl (cD, 4096, .inl g)), (b3, .inl (cE, 4096, .inl md))] U.heap ∧ va_K (dC, dI) vwCm [(cC, .int), (cD, .int), (cE, .int)] U ∧ va_D (fun _ => True) [(o, .inr (1, [.int th, .int (nI w), .int (nI h), .int (nI kw), .int (nI kh), .ref b1, .ref b2, .ref b3])), (b1, .inl (cC, 4096, .inl f)), (b2, .inl (cD, 4096, .inl g)), (b3, .inl (cE, 4096, .inl md))])) (va_Qi (fun (r : Int32) (_ : Unit) => r = cf_dif w h kw kh (cf_V f) (cf_V g)) (fun (u : Unit) (t : State) => va_P (dC, dI) vwCm [(o, .inr (1, [.int (nI 0), .int (nI w), .int (nI h), .int (nI kw), .int (nI kh), .ref b1, .ref b2, .ref b3])), (b1, .inl (cC, 4096, .inl f)), (b2, .inl (cD, 4096, .inl g)), (b3, .inl (cE, 4096, .inl md))] t.heap ∧ va_K (dC, dI) vwCm [(cC, .int), (cD, .int), (cE, .int)] t ∧ va_D (va_A [(o, .inr (1, [.int th, .int (nI w), .int (nI h), .int (nI kw), .int (nI kh), .ref b1, .ref b2, .ref b3])), (b1, .inl (cC, 4096, .inl f)), (b2, .inl (cD, 4096, .inl g)), (b3, .inl (cE, 4096, .inl md))] sz) [(o, .inr (1, [.int (nI 0), .int (nI w), .int (nI h), .int (nI kw), .int (nI kh), .ref b1, .ref b2, .ref b3])), (b1, .inl (cC, 4096, .inl f)), (b2, .inl (cD, 4096, .inl g)), (b3, .inl (cE, 4096, .inl md))]) (va_A [(o, .inr (1, [.int th, .int (nI w), .int (nI h), .int (nI kw), .int (nI kh), .ref b1, .ref b2, .ref b3])), (b1, .inl (cC, 4096, .inl f)), (b2, .inl (cD, 4096, .inl g)), (b3, .inl (cE, 4096, .inl md))] sz)) 0 0 (va_A [(o, .inr (1, [.int th, .int (nI w), .int (nI h), .int (nI kw), .int (nI kh), .ref b1, .ref b2, .ref b3])), (b1, .inl (cC, 4096, .inl f)), (b2, .inl (cD, 4096, .inl g)), (b3, .inl (cE, 4096, .inl md))] sz) := by
  refine Met.ofW (cc := cY1_differ) (maxL := 5) (ret := (some .int)) (by decide) rfl ?_
  intro p e s m args below meth c s₁ B hml hv
  obtain ⟨rfl, hsz, hP, hK, hD0⟩ := hv
  have hx := B.exec
  have hb := B.bytes
  have hr := B.returns
  have hts := atoms_spec (ws := wsY1_differ) B.pre
  have hown : s.vm.findClass RY1 = some m.cls := findClass_of_methodNamed B.named
  have hlocks := B.notSynchronized
  subst hsz
  have hD := hD0.self (sz := s.heap.size)
  generalize hAe : va_A [(o, .inr (1, [.int th, .int (nI w), .int (nI h), .int (nI kw), .int (nI kh), .ref b1, .ref b2, .ref b3])), (b1, .inl (cC, 4096, .inl f)), (b2, .inl (cD, 4096, .inl g)), (b3, .inl (cE, 4096, .inl md))] s.heap.size = A at hD ⊢
  have hA : ∀ q : Nat, s.heap.size ≤ q → A q := fun q h => by rw [← hAe]; exact Or.inr h
  have hS : va_S A s.heap s.heap [] := va_S.rf
  have hP : va_P (dC, dI) vwCm [(o, .inr (1, [.int th, .int (nI w), .int (nI h), .int (nI kw), .int (nI kh), .ref b1, .ref b2, .ref b3])), (b1, .inl (cC, 4096, .inl f)), (b2, .inl (cD, 4096, .inl g)), (b3, .inl (cE, 4096, .inl md))] s.heap := hP
  have hl := lv_entry ([.ref o]) (n := 5) (Nat.le_of_ble_eq_true rfl)
  rw [lg_entry_eq]
  generalize (lg_sl ([.ref o]) ++ List.replicate (5 - (lg_sl ([.ref o])).length) Slot.unset).toArray = ls at hl ⊢
  have hl : lv_has ls 5 [(0, .ref o)] := hl
  refine lv_aload_n hx hb dY1_differ_0 rfl (lv_at hl 0 rfl) ?_
  refine lv_iconst (v := nI 0) hx hb dY1_differ_1 (by decide +kernel) ?_
  refine va_put (D := (dC, dI)) (ci := 1) (v := .int (nI 0)) (ty := .int) (C := RY1) (T := TY1) (N := 8) hx hb hts (by decide +kernel) tyY1 tyY1_ok nmY1 hown hK hP hD hS 0 rfl rfl 0 (by decide) (hts (.fieldLink RY1 36 "CoefTurnsModel" "thrown" "I") (by decide +kernel)) (fun _ h9 => h9) rfl (by decide +kernel) rfl rfl (Nat.le_of_ble_eq_true rfl) dY1_differ_2 (fun H locs hP hD hS => ?_)
  have hP : va_P (dC, dI) vwCm [(o, .inr (1, [.int (nI 0), .int (nI w), .int (nI h), .int (nI kw), .int (nI kh), .ref b1, .ref b2, .ref b3])), (b1, .inl (cC, 4096, .inl f)), (b2, .inl (cD, 4096, .inl g)), (b3, .inl (cE, 4096, .inl md))] H := hP
  have hD : va_D A [(o, .inr (1, [.int (nI 0), .int (nI w), .int (nI h), .int (nI kw), .int (nI kh), .ref b1, .ref b2, .ref b3])), (b1, .inl (cC, 4096, .inl f)), (b2, .inl (cD, 4096, .inl g)), (b3, .inl (cE, 4096, .inl md))] := hD
  refine lv_aload_n hx hb dY1_differ_5 rfl (lv_at hl 0 rfl) ?_
  refine va_get (D := (dC, dI)) (ci := 1) (v := .int (nI w)) (C := RY1) (T := TY1) (N := 8) hx hb hts (by decide +kernel) hown hK hP 0 rfl rfl 1 (by decide) (hts (.fieldLink RY1 23 "CoefTurnsModel" "w" "I") (by decide +kernel)) (fun _ h9 => h9) rfl dY1_differ_6 ?_
  refine lv_aload_n hx hb dY1_differ_9 rfl (lv_at hl 0 rfl) ?_
  refine va_get (D := (dC, dI)) (ci := 1) (v := .int (nI kw)) (C := RY1) (T := TY1) (N := 8) hx hb hts (by decide +kernel) hown hK hP 0 rfl rfl 3 (by decide) (hts (.fieldLink RY1 30 "CoefTurnsModel" "keptW" "I") (by decide +kernel)) (fun _ h9 => h9) rfl dY1_differ_10 ?_
  refine lv_icmp_ne (tgt := 27) hx hb dY1_differ_13 (by decide) (fun c13 => ?_) (fun c13 => ?_)
  · skip
    have c13 := mt (nI_eq (a := w) (b := kw) (by omega) (by omega)).mpr c13
    refine lv_iconst (v := (-1)) hx hb dY1_differ_27 (by decide +kernel) ?_
    have hP9 := hP.sub (ws' := [(o, .inr (1, [.int (nI 0), .int (nI w), .int (nI h), .int (nI kw), .int (nI kh), .ref b1, .ref b2, .ref b3])), (b1, .inl (cC, 4096, .inl f)), (b2, .inl (cD, 4096, .inl g)), (b3, .inl (cE, 4096, .inl md))]) [0, 1, 2, 3] rfl
    have hD9 := hD.sub (ws' := [(o, .inr (1, [.int (nI 0), .int (nI w), .int (nI h), .int (nI kw), .int (nI kh), .ref b1, .ref b2, .ref b3])), (b1, .inl (cC, 4096, .inl f)), (b2, .inl (cD, 4096, .inl g)), (b3, .inl (cE, 4096, .inl md))]) [0, 1, 2, 3] (by decide) rfl
    exact W.iret hx hb hr (fun t ht hW => ⟨⟨_, (), rfl, (by unfold cf_dif; rw [if_neg (by omega)]), by rw [ht]; exact hP9, va_K.moved hW.alike hK, hD9⟩, hS.F ht⟩) hS.2.2 dY1_differ_28
  · skip
    have c13 := (nI_eq (a := w) (b := kw) (by omega) (by omega)).mp c13
    refine lv_aload_n hx hb dY1_differ_16 rfl (lv_at hl 0 rfl) ?_
    refine va_get (D := (dC, dI)) (ci := 1) (v := .int (nI h)) (C := RY1) (T := TY1) (N := 8) hx hb hts (by decide +kernel) hown hK hP 0 rfl rfl 2 (by decide) (hts (.fieldLink RY1 27 "CoefTurnsModel" "h" "I") (by decide +kernel)) (fun _ h9 => h9) rfl dY1_differ_17 ?_
    refine lv_aload_n hx hb dY1_differ_20 rfl (lv_at hl 0 rfl) ?_
    refine va_get (D := (dC, dI)) (ci := 1) (v := .int (nI kh)) (C := RY1) (T := TY1) (N := 8) hx hb hts (by decide +kernel) hown hK hP 0 rfl rfl 4 (by decide) (hts (.fieldLink RY1 33 "CoefTurnsModel" "keptH" "I") (by decide +kernel)) (fun _ h9 => h9) rfl dY1_differ_21 ?_
    refine lv_icmp_eq (tgt := 29) hx hb dY1_differ_24 (by decide) (fun c24 => ?_) (fun c24 => ?_)
    · skip
      have c24 := (nI_eq (a := h) (b := kh) (by omega) (by omega)).mp c24
      refine lv_iconst (v := nI 0) hx hb dY1_differ_29 (by decide +kernel) ?_
      refine lv_istore_n (lv' := [(1, .int (nI 0)), (0, .ref o)]) hx hb dY1_differ_30 rfl hl (by decide) rfl (fun ls hl => ?_)
      refine lv_iconst (v := nI 0) hx hb dY1_differ_31 (by decide +kernel) ?_
      refine lv_istore_n (lv' := [(2, .int (nI 0)), (1, .int (nI 0)), (0, .ref o)]) hx hb dY1_differ_32 rfl hl (by decide) rfl (fun ls hl => ?_)
      have lp33 : ∀ (n33 : Nat) (y0 : Nat) (n0 : Int32), y0 ≤ h → h < y0 + n33 → n0 = cf_fo (fun (a : Int32) y => cf_fo (fun (a : Int32) x => cf_fo (fun (a : Int32) q => if f (64 * (8 * y + x) + q) = g (64 * (8 * y + x) + q) then a else a + 1) 64 a) w a) y0 0 → ∀ (H : Heap) (locs : List Loc), va_P (dC, dI) vwCm [(o, .inr (1, [.int (nI 0), .int (nI w), .int (nI h), .int (nI kw), .int (nI kh), .ref b1, .ref b2, .ref b3])), (b1, .inl (cC, 4096, .inl f)), (b2, .inl (cD, 4096, .inl g)), (b3, .inl (cE, 4096, .inl md))] H → va_D A [(o, .inr (1, [.int (nI 0), .int (nI w), .int (nI h), .int (nI kw), .int (nI kh), .ref b1, .ref b2, .ref b3])), (b1, .inl (cC, 4096, .inl f)), (b2, .inl (cD, 4096, .inl g)), (b3, .inl (cE, 4096, .inl md))] → va_S A s.heap H locs → ∀ (ls : Array Slot), lv_has ls 5 [(0, .ref o), (1, .int n0), (2, .int (nI y0))] → W p l e (headSpec wsY1_differ ({ frames := 1, cells := 0, slots := 0, locals := 21 })).room s m ([.ref o] : List Value).toArray below meth c H locs 0 0 (MQ below (va_Qi (fun (r : Int32) (_ : Unit) => r = cf_dif w h kw kh (cf_V f) (cf_V g)) (fun (u : Unit) (t : State) => va_P (dC, dI) vwCm [(o, .inr (1, [.int (nI 0), .int (nI w), .int (nI h), .int (nI kw), .int (nI kh), .ref b1, .ref b2, .ref b3])), (b1, .inl (cC, 4096, .inl f)), (b2, .inl (cD, 4096, .inl g)), (b3, .inl (cE, 4096, .inl md))] t.heap ∧ va_K (dC, dI) vwCm [(cC, .int), (cD, .int), (cE, .int)] t ∧ va_D A [(o, .inr (1, [.int (nI 0), .int (nI w), .int (nI h), .int (nI kw), .int (nI kh), .ref b1, .ref b2, .ref b3])), (b1, .inl (cC, 4096, .inl f)), (b2, .inl (cD, 4096, .inl g)), (b3, .inl (cE, 4096, .inl md))]) A) ([.ref o] : List Value).toArray s 0 0 A) (F0 m 33 ls []) := by
        intro n33
        induction n33 with
        | zero => intro y0 n0 h1 h2; exact absurd h2 (by omega)
        | succ n33 ih33 =>
          intro y0 n0 hk33 hn33 hIn H locs hP hD hS ls hl
          refine lv_iload_n hx hb dY1_differ_33 rfl (lv_at hl 2 rfl) ?_
          refine lv_aload_n hx hb dY1_differ_34 rfl (lv_at hl 0 rfl) ?_
          refine va_get (D := (dC, dI)) (ci := 1) (v := .int (nI h)) (C := RY1) (T := TY1) (N := 8) hx hb hts (by decide +kernel) hown hK hP 0 rfl rfl 2 (by decide) (hts (.fieldLink RY1 27 "CoefTurnsModel" "h" "I") (by decide +kernel)) (fun _ h9 => h9) rfl dY1_differ_35 ?_
          refine lv_icmp_ge (tgt := 116) hx hb dY1_differ_38 (by decide) (fun c38 => ?_) (fun c38 => ?_)
          · skip
            have c38 := (nI_leI (a := h) (b := y0) (by omega) (by omega)).mp c38
            refine lv_iload_n hx hb dY1_differ_116 rfl (lv_at hl 1 rfl) ?_
            have hP9 := hP.sub (ws' := [(o, .inr (1, [.int (nI 0), .int (nI w), .int (nI h), .int (nI kw), .int (nI kh), .ref b1, .ref b2, .ref b3])), (b1, .inl (cC, 4096, .inl f)), (b2, .inl (cD, 4096, .inl g)), (b3, .inl (cE, 4096, .inl md))]) [0, 1, 2, 3] rfl
            have hD9 := hD.sub (ws' := [(o, .inr (1, [.int (nI 0), .int (nI w), .int (nI h), .int (nI kw), .int (nI kh), .ref b1, .ref b2, .ref b3])), (b1, .inl (cC, 4096, .inl f)), (b2, .inl (cD, 4096, .inl g)), (b3, .inl (cE, 4096, .inl md))]) [0, 1, 2, 3] (by decide) rfl
            exact W.iret hx hb hr (fun t ht hW => ⟨⟨_, (), rfl, (by have e : y0 = h := (by omega); rw [hIn, e]; unfold cf_dif; rw [if_pos ⟨by omega, by omega⟩]; rfl), by rw [ht]; exact hP9, va_K.moved hW.alike hK, hD9⟩, hS.F ht⟩) hS.2.2 dY1_differ_117
          · skip
            have c38 := mt (nI_leI (a := h) (b := y0) (by omega) (by omega)).mpr c38
            refine lv_iconst (v := nI 0) hx hb dY1_differ_41 (by decide +kernel) ?_
            refine lv_istore_n (lv' := [(3, .int (nI 0)), (0, .ref o), (1, .int n0), (2, .int (nI y0))]) hx hb dY1_differ_42 rfl hl (by decide) rfl (fun ls hl => ?_)
            have lp43 : ∀ (n43 : Nat) (x0 : Nat) (n1 : Int32), x0 ≤ w → w < x0 + n43 → n1 = cf_fo (fun (a : Int32) x => cf_fo (fun (a : Int32) q => if f (64 * (8 * y0 + x) + q) = g (64 * (8 * y0 + x) + q) then a else a + 1) 64 a) x0 n0 → ∀ (H : Heap) (locs : List Loc), va_P (dC, dI) vwCm [(o, .inr (1, [.int (nI 0), .int (nI w), .int (nI h), .int (nI kw), .int (nI kh), .ref b1, .ref b2, .ref b3])), (b1, .inl (cC, 4096, .inl f)), (b2, .inl (cD, 4096, .inl g)), (b3, .inl (cE, 4096, .inl md))] H → va_D A [(o, .inr (1, [.int (nI 0), .int (nI w), .int (nI h), .int (nI kw), .int (nI kh), .ref b1, .ref b2, .ref b3])), (b1, .inl (cC, 4096, .inl f)), (b2, .inl (cD, 4096, .inl g)), (b3, .inl (cE, 4096, .inl md))] → va_S A s.heap H locs → ∀ (ls : Array Slot), lv_has ls 5 [(0, .ref o), (1, .int n1), (2, .int (nI y0)), (3, .int (nI x0))] → W p l e (headSpec wsY1_differ ({ frames := 1, cells := 0, slots := 0, locals := 21 })).room s m ([.ref o] : List Value).toArray below meth c H locs 0 0 (MQ below (va_Qi (fun (r : Int32) (_ : Unit) => r = cf_dif w h kw kh (cf_V f) (cf_V g)) (fun (u : Unit) (t : State) => va_P (dC, dI) vwCm [(o, .inr (1, [.int (nI 0), .int (nI w), .int (nI h), .int (nI kw), .int (nI kh), .ref b1, .ref b2, .ref b3])), (b1, .inl (cC, 4096, .inl f)), (b2, .inl (cD, 4096, .inl g)), (b3, .inl (cE, 4096, .inl md))] t.heap ∧ va_K (dC, dI) vwCm [(cC, .int), (cD, .int), (cE, .int)] t ∧ va_D A [(o, .inr (1, [.int (nI 0), .int (nI w), .int (nI h), .int (nI kw), .int (nI kh), .ref b1, .ref b2, .ref b3])), (b1, .inl (cC, 4096, .inl f)), (b2, .inl (cD, 4096, .inl g)), (b3, .inl (cE, 4096, .inl md))]) A) ([.ref o] : List Value).toArray s 0 0 A) (F0 m 43 ls []) := by
              intro n43
              induction n43 with
              | zero => intro x0 n1 h1 h2; exact absurd h2 (by omega)
              | succ n43 ih43 =>
                intro x0 n1 hk43 hn43 hJn H locs hP hD hS ls hl
                refine lv_iload_n hx hb dY1_differ_43 rfl (lv_at hl 3 rfl) ?_
                refine lv_aload_n hx hb dY1_differ_44 rfl (lv_at hl 0 rfl) ?_
                refine va_get (D := (dC, dI)) (ci := 1) (v := .int (nI w)) (C := RY1) (T := TY1) (N := 8) hx hb hts (by decide +kernel) hown hK hP 0 rfl rfl 1 (by decide) (hts (.fieldLink RY1 23 "CoefTurnsModel" "w" "I") (by decide +kernel)) (fun _ h9 => h9) rfl dY1_differ_45 ?_
                refine lv_icmp_ge (tgt := 110) hx hb dY1_differ_48 (by decide) (fun c48 => ?_) (fun c48 => ?_)
                · skip
                  have c48 := (nI_leI (a := w) (b := x0) (by omega) (by omega)).mp c48
                  refine lv_iinc (v := nI (y0 + 1)) (lv' := [(2, .int (nI (y0 + 1))), (0, .ref o), (1, .int n1), (3, .int (nI x0))]) hx hb dY1_differ_110 hl (k := 2) rfl (by rw [← nI_add]; rfl) (by decide) rfl (fun ls hl => ?_)
                  refine lv_goto (tgt := 33) hx hb dY1_differ_113 (by decide) ?_
                  exact ih33 (y0 + 1) n1 (by omega) (by omega) (by have e : x0 = w := (by omega); rw [hJn, e, hIn]; rfl) H locs hP hD hS ls (lv_sub hl [1, 2, 0] rfl)
                · skip
                  have c48 := mt (nI_leI (a := w) (b := x0) (by omega) (by omega)).mpr c48
                  refine lv_iconst (v := nI 0) hx hb dY1_differ_51 (by decide +kernel) ?_
                  refine lv_istore (lv' := [(4, .int (nI 0)), (0, .ref o), (1, .int n1), (2, .int (nI y0)), (3, .int (nI x0))]) hx hb dY1_differ_52 hl (by decide) rfl (fun ls hl => ?_)
                  have lp54 : ∀ (n54 : Nat) (p0 : Nat) (n2 : Int32), p0 ≤ 64 → 64 < p0 + n54 → n2 = cf_fo (fun (a : Int32) q => if f (64 * (8 * y0 + x0) + q) = g (64 * (8 * y0 + x0) + q) then a else a + 1) p0 n1 → ∀ (H : Heap) (locs : List Loc), va_P (dC, dI) vwCm [(o, .inr (1, [.int (nI 0), .int (nI w), .int (nI h), .int (nI kw), .int (nI kh), .ref b1, .ref b2, .ref b3])), (b1, .inl (cC, 4096, .inl f)), (b2, .inl (cD, 4096, .inl g)), (b3, .inl (cE, 4096, .inl md))] H → va_D A [(o, .inr (1, [.int (nI 0), .int (nI w), .int (nI h), .int (nI kw), .int (nI kh), .ref b1, .ref b2, .ref b3])), (b1, .inl (cC, 4096, .inl f)), (b2, .inl (cD, 4096, .inl g)), (b3, .inl (cE, 4096, .inl md))] → va_S A s.heap H locs → ∀ (ls : Array Slot), lv_has ls 5 [(0, .ref o), (1, .int n2), (2, .int (nI y0)), (3, .int (nI x0)), (4, .int (nI p0))] → W p l e (headSpec wsY1_differ ({ frames := 1, cells := 0, slots := 0, locals := 21 })).room s m ([.ref o] : List Value).toArray below meth c H locs 0 0 (MQ below (va_Qi (fun (r : Int32) (_ : Unit) => r = cf_dif w h kw kh (cf_V f) (cf_V g)) (fun (u : Unit) (t : State) => va_P (dC, dI) vwCm [(o, .inr (1, [.int (nI 0), .int (nI w), .int (nI h), .int (nI kw), .int (nI kh), .ref b1, .ref b2, .ref b3])), (b1, .inl (cC, 4096, .inl f)), (b2, .inl (cD, 4096, .inl g)), (b3, .inl (cE, 4096, .inl md))] t.heap ∧ va_K (dC, dI) vwCm [(cC, .int), (cD, .int), (cE, .int)] t ∧ va_D A [(o, .inr (1, [.int (nI 0), .int (nI w), .int (nI h), .int (nI kw), .int (nI kh), .ref b1, .ref b2, .ref b3])), (b1, .inl (cC, 4096, .inl f)), (b2, .inl (cD, 4096, .inl g)), (b3, .inl (cE, 4096, .inl md))]) A) ([.ref o] : List Value).toArray s 0 0 A) (F0 m 54 ls []) := by
                    intro n54
                    induction n54 with
                    | zero => intro p0 n2 h1 h2; exact absurd h2 (by omega)
                    | succ n54 ih54 =>
                      intro p0 n2 hk54 hn54 hLn H locs hP hD hS ls hl
                      refine lv_iload hx hb dY1_differ_54 (lv_at hl 4 rfl) ?_
                      refine lv_bipush (v := nI 64) hx hb dY1_differ_56 (by decide +kernel) ?_
                      refine lv_icmp_ge (tgt := 104) hx hb dY1_differ_58 (by decide) (fun c58 => ?_) (fun c58 => ?_)
                      · skip
                        have c58 := (nI_leI (a := 64) (b := p0) (by omega) (by omega)).mp c58
                        refine lv_iinc (v := nI (x0 + 1)) (lv' := [(3, .int (nI (x0 + 1))), (0, .ref o), (1, .int n2), (2, .int (nI y0)), (4, .int (nI p0))]) hx hb dY1_differ_104 hl (k := 3) rfl (by rw [← nI_add]; rfl) (by decide) rfl (fun ls hl => ?_)
                        refine lv_goto (tgt := 43) hx hb dY1_differ_107 (by decide) ?_
                        exact ih43 (x0 + 1) n2 (by omega) (by omega) (by have e : p0 = 64 := (by omega); rw [hLn, e, hJn]; rfl) H locs hP hD hS ls (lv_sub hl [1, 2, 3, 0] rfl)
                      · skip
                        have c58 := mt (nI_leI (a := 64) (b := p0) (by omega) (by omega)).mpr c58
                        refine lv_iload_n hx hb dY1_differ_61 rfl (lv_at hl 1 rfl) ?_
                        refine lv_aload_n hx hb dY1_differ_62 rfl (lv_at hl 0 rfl) ?_
                        refine va_get (D := (dC, dI)) (ci := 1) (v := .ref b1) (C := RY1) (T := TY1) (N := 8) hx hb hts (by decide +kernel) hown hK hP 0 rfl rfl 5 (by decide) (hts (.fieldLink RY1 7 "CoefTurnsModel" "plane" "[I") (by decide +kernel)) (fun _ h9 => h9) rfl dY1_differ_63 ?_
                        refine lv_iload_n hx hb dY1_differ_66 rfl (lv_at hl 3 rfl) ?_
                        refine lv_iload_n hx hb dY1_differ_67 rfl (lv_at hl 2 rfl) ?_
                        refine vp_callSi (W.runS (As := [.int (nI x0), .int (nI y0)]) (rest := [.ref b1, .int n2]) ⟨hx, hb, hml, hown, hts⟩ (kY1_block l x0 y0) (va_cwS 2 hts gY1_differ_Y1_block rfl rfl rfl (by decide +kernel) ⟨Nat.le_of_ble_eq_true rfl, Nat.le_of_ble_eq_true rfl⟩) ⟨fun a U g mk q => q, fun U hU hW => ⟨rfl, trivial⟩⟩ rfl rfl hl.1 rfl (lv_room (Nat.le_of_ble_eq_true rfl)) dY1_differ_68 ⟨Nat.le_of_ble_eq_true rfl, Nat.le_of_ble_eq_true rfl⟩) (fun r68 w68 => ?_)
                        subst w68
                        refine lv_iload hx hb dY1_differ_71 (lv_at hl 4 rfl) ?_
                        refine lv_iadd hx hb dY1_differ_73 ?_
                        refine cf_top (nI_add _ _) ?_
                        refine cf_iald (D := (dC, dI)) hx hb hK hP 1 0 rfl rfl (k := 64 * (8 * y0 + x0) + p0) (by omega) (by decide) dY1_differ_74 ?_
                        refine lv_aload_n hx hb dY1_differ_75 rfl (lv_at hl 0 rfl) ?_
                        refine va_get (D := (dC, dI)) (ci := 1) (v := .ref b2) (C := RY1) (T := TY1) (N := 8) hx hb hts (by decide +kernel) hown hK hP 0 rfl rfl 6 (by decide) (hts (.fieldLink RY1 13 "CoefTurnsModel" "kept" "[I") (by decide +kernel)) (fun _ h9 => h9) rfl dY1_differ_76 ?_
                        refine lv_iload_n hx hb dY1_differ_79 rfl (lv_at hl 3 rfl) ?_
                        refine lv_iload_n hx hb dY1_differ_80 rfl (lv_at hl 2 rfl) ?_
                        refine vp_callSi (W.runS (As := [.int (nI x0), .int (nI y0)]) (rest := [.ref b2, .int (f (64 * (8 * y0 + x0) + p0)), .int n2]) ⟨hx, hb, hml, hown, hts⟩ (kY1_block l x0 y0) (va_cwS 2 hts gY1_differ_Y1_block rfl rfl rfl (by decide +kernel) ⟨Nat.le_of_ble_eq_true rfl, Nat.le_of_ble_eq_true rfl⟩) ⟨fun a U g mk q => q, fun U hU hW => ⟨rfl, trivial⟩⟩ rfl rfl hl.1 rfl (lv_room (Nat.le_of_ble_eq_true rfl)) dY1_differ_81 ⟨Nat.le_of_ble_eq_true rfl, Nat.le_of_ble_eq_true rfl⟩) (fun r81 w81 => ?_)
                        subst w81
                        refine lv_iload hx hb dY1_differ_84 (lv_at hl 4 rfl) ?_
                        refine lv_iadd hx hb dY1_differ_86 ?_
                        refine cf_top (nI_add _ _) ?_
                        refine cf_iald (D := (dC, dI)) hx hb hK hP 2 1 rfl rfl (k := 64 * (8 * y0 + x0) + p0) (by omega) (by decide) dY1_differ_87 ?_
                        refine lv_icmp_eq (tgt := 95) hx hb dY1_differ_88 (by decide) (fun c88 => ?_) (fun c88 => ?_)
                        · skip
                          refine lv_iconst (v := nI 0) hx hb dY1_differ_95 (by decide +kernel) ?_
                          refine lv_iadd hx hb dY1_differ_96 ?_
                          refine lv_istore_n (lv' := [(1, .int (n2 + (nI 0))), (0, .ref o), (2, .int (nI y0)), (3, .int (nI x0)), (4, .int (nI p0))]) hx hb dY1_differ_97 rfl hl (by decide) rfl (fun ls hl => ?_)
                          refine lv_iinc (v := nI (p0 + 1)) (lv' := [(4, .int (nI (p0 + 1))), (1, .int (n2 + (nI 0))), (0, .ref o), (2, .int (nI y0)), (3, .int (nI x0))]) hx hb dY1_differ_98 hl (k := 4) rfl (by rw [← nI_add]; rfl) (by decide) rfl (fun ls hl => ?_)
                          refine lv_goto (tgt := 54) hx hb dY1_differ_101 (by decide) ?_
                          exact ih54 (p0 + 1) (n2 + (nI 0)) (by omega) (by omega) (by rw [cf_fo_1, ← hLn]; first | exact cf_ifp c88 | exact cf_ifn c88) H locs hP hD hS ls (lv_sub hl [2, 1, 3, 4, 0] rfl)
                        · skip
                          refine lv_iconst (v := nI 1) hx hb dY1_differ_91 (by decide +kernel) ?_
                          refine lv_goto (tgt := 96) hx hb dY1_differ_92 (by decide) ?_
                          refine lv_iadd hx hb dY1_differ_96 ?_
                          refine lv_istore_n (lv' := [(1, .int (n2 + (nI 1))), (0, .ref o), (2, .int (nI y0)), (3, .int (nI x0)), (4, .int (nI p0))]) hx hb dY1_differ_97 rfl hl (by decide) rfl (fun ls hl => ?_)
                          refine lv_iinc (v := nI (p0 + 1)) (lv' := [(4, .int (nI (p0 + 1))), (1, .int (n2 + (nI 1))), (0, .ref o), (2, .int (nI y0)), (3, .int (nI x0))]) hx hb dY1_differ_98 hl (k := 4) rfl (by rw [← nI_add]; rfl) (by decide) rfl (fun ls hl => ?_)
                          refine lv_goto (tgt := 54) hx hb dY1_differ_101 (by decide) ?_
                          exact ih54 (p0 + 1) (n2 + (nI 1)) (by omega) (by omega) (by rw [cf_fo_1, ← hLn]; first | exact cf_ifp c88 | exact cf_ifn c88) H locs hP hD hS ls (lv_sub hl [2, 1, 3, 4, 0] rfl)
                  exact lp54 (64 + 1) 0 n1 (by omega) (by omega) rfl H locs hP hD hS ls (lv_sub hl [1, 2, 3, 4, 0] rfl)
            exact lp43 (w + 1) 0 n0 (by omega) (by omega) rfl H locs hP hD hS ls (lv_sub hl [1, 2, 3, 0] rfl)
      exact lp33 (h + 1) 0 (nI 0) (by omega) (by omega) rfl H locs hP hD hS ls (lv_sub hl [2, 1, 0] rfl)
    · skip
      have c24 := mt (nI_eq (a := h) (b := kh) (by omega) (by omega)).mpr c24
      refine lv_iconst (v := (-1)) hx hb dY1_differ_27 (by decide +kernel) ?_
      have hP9 := hP.sub (ws' := [(o, .inr (1, [.int (nI 0), .int (nI w), .int (nI h), .int (nI kw), .int (nI kh), .ref b1, .ref b2, .ref b3])), (b1, .inl (cC, 4096, .inl f)), (b2, .inl (cD, 4096, .inl g)), (b3, .inl (cE, 4096, .inl md))]) [0, 1, 2, 3] rfl
      have hD9 := hD.sub (ws' := [(o, .inr (1, [.int (nI 0), .int (nI w), .int (nI h), .int (nI kw), .int (nI kh), .ref b1, .ref b2, .ref b3])), (b1, .inl (cC, 4096, .inl f)), (b2, .inl (cD, 4096, .inl g)), (b3, .inl (cE, 4096, .inl md))]) [0, 1, 2, 3] (by decide) rfl
      exact W.iret hx hb hr (fun t ht hW => ⟨⟨_, (), rfl, (by unfold cf_dif; rw [if_neg (by omega)]), by rw [ht]; exact hP9, va_K.moved hW.alike hK, hD9⟩, hS.F ht⟩) hS.2.2 dY1_differ_28
set_option maxHeartbeats 4000000 in
set_option maxRecDepth 100000 in
/-- Y1_at -/
theorem kY1_at (l : Launch) (dC : Nat → ClassId) (dI : Nat → Nat → Nat) (sz : Nat) (o b1 b2 b3 : Nat) (cC cD cE : ClassId) (f g md : Nat → Int32) (th : Int32) (w h kw kh : Nat) (bx bz q : Int32) (hw : w ≤ 8) (hh : h ≤ 8) : Met l yY1_at wsY1_at ({ frames := 1, cells := 0, slots := 0, locals := 22 }) (va_Pc [.ref o, .int bx, .int bz, .int q] (fun U => U.heap.size = sz ∧ va_P (dC, dI) vwCm [(o, .inr (1, [.int th, .int (nI w), .int (nI h), .int (nI kw), .int (nI kh), .ref b1, .ref b2, .ref b3])), (b1, .inl (cC, 4096, .inl f)), (b2, .inl (cD, 4096, .inl g)), (b3, .inl (cE, 4096, .inl md))] U.heap ∧ va_K (dC, dI) vwCm [(cC, .int), (cD, .int), (cE, .int)] U ∧ va_D (fun _ => True) [(o, .inr (1, [.int th, .int (nI w), .int (nI h), .int (nI kw), .int (nI kh), .ref b1, .ref b2, .ref b3])), (b1, .inl (cC, 4096, .inl f)), (b2, .inl (cD, 4096, .inl g)), (b3, .inl (cE, 4096, .inl md))])) (va_Qi (fun (r : Int32) (_ : Unit) => r = cf_at w h (cf_V f) bx bz q) (fun (u : Unit) (t : State) => va_P (dC, dI) vwCm [(o, .inr (1, [.int (nI 0), .int (nI w), .int (nI h), .int (nI kw), .int (nI kh), .ref b1, .ref b2, .ref b3])), (b1, .inl (cC, 4096, .inl f)), (b2, .inl (cD, 4096, .inl g)), (b3, .inl (cE, 4096, .inl md))] t.heap ∧ va_K (dC, dI) vwCm [(cC, .int), (cD, .int), (cE, .int)] t ∧ va_D (va_A [(o, .inr (1, [.int th, .int (nI w), .int (nI h), .int (nI kw), .int (nI kh), .ref b1, .ref b2, .ref b3])), (b1, .inl (cC, 4096, .inl f)), (b2, .inl (cD, 4096, .inl g)), (b3, .inl (cE, 4096, .inl md))] sz) [(o, .inr (1, [.int (nI 0), .int (nI w), .int (nI h), .int (nI kw), .int (nI kh), .ref b1, .ref b2, .ref b3])), (b1, .inl (cC, 4096, .inl f)), (b2, .inl (cD, 4096, .inl g)), (b3, .inl (cE, 4096, .inl md))]) (va_A [(o, .inr (1, [.int th, .int (nI w), .int (nI h), .int (nI kw), .int (nI kh), .ref b1, .ref b2, .ref b3])), (b1, .inl (cC, 4096, .inl f)), (b2, .inl (cD, 4096, .inl g)), (b3, .inl (cE, 4096, .inl md))] sz)) 0 0 (va_A [(o, .inr (1, [.int th, .int (nI w), .int (nI h), .int (nI kw), .int (nI kh), .ref b1, .ref b2, .ref b3])), (b1, .inl (cC, 4096, .inl f)), (b2, .inl (cD, 4096, .inl g)), (b3, .inl (cE, 4096, .inl md))] sz) := by
  refine Met.ofW (cc := cY1_at) (maxL := 4) (ret := (some .int)) (by decide) rfl ?_
  intro p e s m args below meth c s₁ B hml hv
  obtain ⟨rfl, hsz, hP, hK, hD0⟩ := hv
  have hx := B.exec
  have hb := B.bytes
  have hr := B.returns
  have hts := atoms_spec (ws := wsY1_at) B.pre
  have hown : s.vm.findClass RY1 = some m.cls := findClass_of_methodNamed B.named
  have hlocks := B.notSynchronized
  subst hsz
  have hD := hD0.self (sz := s.heap.size)
  generalize hAe : va_A [(o, .inr (1, [.int th, .int (nI w), .int (nI h), .int (nI kw), .int (nI kh), .ref b1, .ref b2, .ref b3])), (b1, .inl (cC, 4096, .inl f)), (b2, .inl (cD, 4096, .inl g)), (b3, .inl (cE, 4096, .inl md))] s.heap.size = A at hD ⊢
  have hA : ∀ q : Nat, s.heap.size ≤ q → A q := fun q h => by rw [← hAe]; exact Or.inr h
  have hS : va_S A s.heap s.heap [] := va_S.rf
  have hP : va_P (dC, dI) vwCm [(o, .inr (1, [.int th, .int (nI w), .int (nI h), .int (nI kw), .int (nI kh), .ref b1, .ref b2, .ref b3])), (b1, .inl (cC, 4096, .inl f)), (b2, .inl (cD, 4096, .inl g)), (b3, .inl (cE, 4096, .inl md))] s.heap := hP
  have hl := lv_entry ([.ref o, .int bx, .int bz, .int q]) (n := 4) (Nat.le_of_ble_eq_true rfl)
  rw [lg_entry_eq]
  generalize (lg_sl ([.ref o, .int bx, .int bz, .int q]) ++ List.replicate (4 - (lg_sl ([.ref o, .int bx, .int bz, .int q])).length) Slot.unset).toArray = ls at hl ⊢
  have hl : lv_has ls 4 [(0, .ref o), (1, .int bx), (2, .int bz), (3, .int q)] := hl
  refine lv_aload_n hx hb dY1_at_0 rfl (lv_at hl 0 rfl) ?_
  refine lv_iconst (v := nI 0) hx hb dY1_at_1 (by decide +kernel) ?_
  refine va_put (D := (dC, dI)) (ci := 1) (v := .int (nI 0)) (ty := .int) (C := RY1) (T := TY1) (N := 8) hx hb hts (by decide +kernel) tyY1 tyY1_ok nmY1 hown hK hP hD hS 0 rfl rfl 0 (by decide) (hts (.fieldLink RY1 36 "CoefTurnsModel" "thrown" "I") (by decide +kernel)) (fun _ h9 => h9) rfl (by decide +kernel) rfl rfl (Nat.le_of_ble_eq_true rfl) dY1_at_2 (fun H locs hP hD hS => ?_)
  have hP : va_P (dC, dI) vwCm [(o, .inr (1, [.int (nI 0), .int (nI w), .int (nI h), .int (nI kw), .int (nI kh), .ref b1, .ref b2, .ref b3])), (b1, .inl (cC, 4096, .inl f)), (b2, .inl (cD, 4096, .inl g)), (b3, .inl (cE, 4096, .inl md))] H := hP
  have hD : va_D A [(o, .inr (1, [.int (nI 0), .int (nI w), .int (nI h), .int (nI kw), .int (nI kh), .ref b1, .ref b2, .ref b3])), (b1, .inl (cC, 4096, .inl f)), (b2, .inl (cD, 4096, .inl g)), (b3, .inl (cE, 4096, .inl md))] := hD
  refine lv_aload_n hx hb dY1_at_5 rfl (lv_at hl 0 rfl) ?_
  refine lv_iload_n hx hb dY1_at_6 rfl (lv_at hl 1 rfl) ?_
  refine lv_iload_n hx hb dY1_at_7 rfl (lv_at hl 2 rfl) ?_
  have hPc := hP.sub (ws' := [(o, .inr (1, [.int (nI 0), .int (nI w), .int (nI h), .int (nI kw), .int (nI kh), .ref b1, .ref b2, .ref b3])), (b1, .inl (cC, 4096, .inl f)), (b2, .inl (cD, 4096, .inl g)), (b3, .inl (cE, 4096, .inl md))]) [0, 1, 2, 3] rfl
  have hKc := hK.sub (tys' := [(cC, .int), (cD, .int), (cE, .int)]) [0, 1, 2] rfl
  refine vp_callSi (W.runV (As := [.int bx, .int bz]) (rest := []) ⟨hx, hb, hml, hown, hts⟩ (kY1_isBlock l dC dI o b1 b2 b3 cC cD cE f g md (nI 0) w h kw kh bx bz) (cwV 2 hts gY1_at_Y1_isBlock rfl rfl rfl (by decide +kernel) ⟨Nat.le_of_ble_eq_true rfl, Nat.le_of_ble_eq_true rfl⟩) ⟨fun a U g mk q => by obtain ⟨q0, qP, qK⟩ := q; exact ⟨q0, qP, va_K.moved (u := U) (U := U.calling g mk a) (Vm.Alike.refl U.vm) qK⟩, va_recv hKc hPc (ci := 1) (q0 := 0) rfl rfl, fun U hU hW => ⟨rfl, by rw [hU]; exact hPc, va_K.moved hW.alike hKc⟩⟩ rfl rfl hl.1 rfl (lv_room (Nat.le_of_ble_eq_true rfl)) dY1_at_8 ⟨Nat.le_of_ble_eq_true rfl, Nat.le_of_ble_eq_true rfl⟩) (fun r8 w8 => ?_)
  subst w8
  refine lv_if_eq (tgt := 36) hx hb dY1_at_11 (by decide) (fun c11 => ?_) (fun c11 => ?_)
  · skip
    refine lv_iconst (v := nI 0) hx hb dY1_at_36 (by decide +kernel) ?_
    have hP9 := hP.sub (ws' := [(o, .inr (1, [.int (nI 0), .int (nI w), .int (nI h), .int (nI kw), .int (nI kh), .ref b1, .ref b2, .ref b3])), (b1, .inl (cC, 4096, .inl f)), (b2, .inl (cD, 4096, .inl g)), (b3, .inl (cE, 4096, .inl md))]) [0, 1, 2, 3] rfl
    have hD9 := hD.sub (ws' := [(o, .inr (1, [.int (nI 0), .int (nI w), .int (nI h), .int (nI kw), .int (nI kh), .ref b1, .ref b2, .ref b3])), (b1, .inl (cC, 4096, .inl f)), (b2, .inl (cD, 4096, .inl g)), (b3, .inl (cE, 4096, .inl md))]) [0, 1, 2, 3] (by decide) rfl
    exact W.iret hx hb hr (fun t ht hW => ⟨⟨_, (), rfl, (by unfold cf_at; first | (rw [if_pos c11]; try exact nI_0) | (rw [if_neg c11, if_pos c18]; try exact nI_0)), by rw [ht]; exact hP9, va_K.moved hW.alike hK, hD9⟩, hS.F ht⟩) hS.2.2 dY1_at_37
  · skip
    obtain ⟨x, z, hx_, hz_, ebx, ebz⟩ := cf_ib_1 hw hh c11
    refine lv_iload_n hx hb dY1_at_14 rfl (lv_at hl 3 rfl) ?_
    refine vp_callSi (W.runS (As := [.int q]) (rest := []) ⟨hx, hb, hml, hown, hts⟩ (kY1_isPlace l q) (va_cwS 1 hts gY1_at_Y1_isPlace rfl rfl rfl (by decide +kernel) ⟨Nat.le_of_ble_eq_true rfl, Nat.le_of_ble_eq_true rfl⟩) ⟨fun a U g mk q => q, fun U hU hW => ⟨rfl, trivial⟩⟩ rfl rfl hl.1 rfl (lv_room (Nat.le_of_ble_eq_true rfl)) dY1_at_15 ⟨Nat.le_of_ble_eq_true rfl, Nat.le_of_ble_eq_true rfl⟩) (fun r15 w15 => ?_)
    subst w15
    refine lv_if_eq (tgt := 36) hx hb dY1_at_18 (by decide) (fun c18 => ?_) (fun c18 => ?_)
    · skip
      refine lv_iconst (v := nI 0) hx hb dY1_at_36 (by decide +kernel) ?_
      have hP9 := hP.sub (ws' := [(o, .inr (1, [.int (nI 0), .int (nI w), .int (nI h), .int (nI kw), .int (nI kh), .ref b1, .ref b2, .ref b3])), (b1, .inl (cC, 4096, .inl f)), (b2, .inl (cD, 4096, .inl g)), (b3, .inl (cE, 4096, .inl md))]) [0, 1, 2, 3] rfl
      have hD9 := hD.sub (ws' := [(o, .inr (1, [.int (nI 0), .int (nI w), .int (nI h), .int (nI kw), .int (nI kh), .ref b1, .ref b2, .ref b3])), (b1, .inl (cC, 4096, .inl f)), (b2, .inl (cD, 4096, .inl g)), (b3, .inl (cE, 4096, .inl md))]) [0, 1, 2, 3] (by decide) rfl
      exact W.iret hx hb hr (fun t ht hW => ⟨⟨_, (), rfl, (by unfold cf_at; first | (rw [if_pos c11]; try exact nI_0) | (rw [if_neg c11, if_pos c18]; try exact nI_0)), by rw [ht]; exact hP9, va_K.moved hW.alike hK, hD9⟩, hS.F ht⟩) hS.2.2 dY1_at_37
    · skip
      obtain ⟨j, hj, eq⟩ := cf_ip_1 c18
      refine lv_aload_n hx hb dY1_at_21 rfl (lv_at hl 0 rfl) ?_
      refine va_get (D := (dC, dI)) (ci := 1) (v := .ref b1) (C := RY1) (T := TY1) (N := 8) hx hb hts (by decide +kernel) hown hK hP 0 rfl rfl 5 (by decide) (hts (.fieldLink RY1 7 "CoefTurnsModel" "plane" "[I") (by decide +kernel)) (fun _ h9 => h9) rfl dY1_at_22 ?_
      refine lv_iload_n hx hb dY1_at_25 rfl (lv_at hl 1 rfl) ?_
      refine cf_top ebx ?_
      refine lv_iload_n hx hb dY1_at_26 rfl (lv_at hl 2 rfl) ?_
      refine cf_top ebz ?_
      refine vp_callSi (W.runS (As := [.int (nI x), .int (nI z)]) (rest := [.ref b1]) ⟨hx, hb, hml, hown, hts⟩ (kY1_block l x z) (va_cwS 2 hts gY1_at_Y1_block rfl rfl rfl (by decide +kernel) ⟨Nat.le_of_ble_eq_true rfl, Nat.le_of_ble_eq_true rfl⟩) ⟨fun a U g mk q => q, fun U hU hW => ⟨rfl, trivial⟩⟩ rfl rfl hl.1 rfl (lv_room (Nat.le_of_ble_eq_true rfl)) dY1_at_27 ⟨Nat.le_of_ble_eq_true rfl, Nat.le_of_ble_eq_true rfl⟩) (fun r27 w27 => ?_)
      subst w27
      refine lv_iload_n hx hb dY1_at_30 rfl (lv_at hl 3 rfl) ?_
      refine cf_top eq ?_
      refine lv_iadd hx hb dY1_at_31 ?_
      refine cf_top (nI_add _ _) ?_
      refine cf_iald (D := (dC, dI)) hx hb hK hP 1 0 rfl rfl (k := 64 * (8 * z + x) + j) (by omega) (by decide) dY1_at_32 ?_
      refine lv_goto (tgt := 37) hx hb dY1_at_33 (by decide) ?_
      have hP9 := hP.sub (ws' := [(o, .inr (1, [.int (nI 0), .int (nI w), .int (nI h), .int (nI kw), .int (nI kh), .ref b1, .ref b2, .ref b3])), (b1, .inl (cC, 4096, .inl f)), (b2, .inl (cD, 4096, .inl g)), (b3, .inl (cE, 4096, .inl md))]) [0, 1, 2, 3] rfl
      have hD9 := hD.sub (ws' := [(o, .inr (1, [.int (nI 0), .int (nI w), .int (nI h), .int (nI kw), .int (nI kh), .ref b1, .ref b2, .ref b3])), (b1, .inl (cC, 4096, .inl f)), (b2, .inl (cD, 4096, .inl g)), (b3, .inl (cE, 4096, .inl md))]) [0, 1, 2, 3] (by decide) rfl
      exact W.iret hx hb hr (fun t ht hW => ⟨⟨_, (), rfl, (by rw [ebx, ebz, eq, cf_at_n hw hh hx_ hz_ hj]; rfl), by rw [ht]; exact hP9, va_K.moved hW.alike hK, hD9⟩, hS.F ht⟩) hS.2.2 dY1_at_37
set_option maxHeartbeats 4000000 in
set_option maxRecDepth 100000 in
/-- Y1_lookAll -/
theorem kY1_lookAll (l : Launch) (dC : Nat → ClassId) (dI : Nat → Nat → Nat) (o b1 b2 b3 : Nat) (cC cD cE : ClassId) (f g md : Nat → Int32) (th : Int32) (w h kw kh : Nat) (t : Int32) (hw : w ≤ 8) (hh : h ≤ 8) : Met l yY1_lookAll wsY1_lookAll ({ frames := 1, cells := 0, slots := 0, locals := 21 }) (va_Pc [.ref o, .int t] (fun U => va_P (dC, dI) vwCm [(o, .inr (1, [.int th, .int (nI w), .int (nI h), .int (nI kw), .int (nI kh), .ref b1, .ref b2, .ref b3])), (b1, .inl (cC, 4096, .inl f)), (b2, .inl (cD, 4096, .inl g)), (b3, .inl (cE, 4096, .inl md))] U.heap ∧ va_K (dC, dI) vwCm [(cC, .int), (cD, .int), (cE, .int)] U)) (vp_Si (fun r : Int32 => r = if t = 0 then cf_mo w h (cf_V f) else cf_nz w h (cf_V f))) 0 0 (fun _ => False) := by
  refine Met.ofW (cc := cY1_lookAll) (maxL := 8) (ret := (some .int)) (by decide) rfl ?_
  intro p e s m args below meth c s₁ B hml hv
  obtain ⟨rfl, hP, hK⟩ := hv
  have hx := B.exec
  have hb := B.bytes
  have hr := B.returns
  have hts := atoms_spec (ws := wsY1_lookAll) B.pre
  have hown : s.vm.findClass RY1 = some m.cls := findClass_of_methodNamed B.named
  have hlocks := B.notSynchronized
  have hl := lv_entry ([.ref o, .int t]) (n := 8) (Nat.le_of_ble_eq_true rfl)
  rw [lg_entry_eq]
  generalize (lg_sl ([.ref o, .int t]) ++ List.replicate (8 - (lg_sl ([.ref o, .int t])).length) Slot.unset).toArray = ls at hl ⊢
  have hl : lv_has ls 8 [(0, .ref o), (1, .int t)] := hl
  refine lv_iconst (v := nI 0) hx hb dY1_lookAll_0 (by decide +kernel) ?_
  refine lv_istore_n (lv' := [(2, .int (nI 0)), (0, .ref o), (1, .int t)]) hx hb dY1_lookAll_1 rfl hl (by decide) rfl (fun ls hl => ?_)
  refine lv_iconst (v := nI 0) hx hb dY1_lookAll_2 (by decide +kernel) ?_
  refine lv_istore_n (lv' := [(3, .int (nI 0)), (2, .int (nI 0)), (0, .ref o), (1, .int t)]) hx hb dY1_lookAll_3 rfl hl (by decide) rfl (fun ls hl => ?_)
  refine lv_iconst (v := nI 0) hx hb dY1_lookAll_4 (by decide +kernel) ?_
  refine lv_istore (lv' := [(4, .int (nI 0)), (3, .int (nI 0)), (2, .int (nI 0)), (0, .ref o), (1, .int t)]) hx hb dY1_lookAll_5 hl (by decide) rfl (fun ls hl => ?_)
  have lp7 : ∀ (n7 : Nat) (y0 : Nat) (n0 : Int32) (g0 : Int32), y0 ≤ h → h < y0 + n7 → n0 = cf_fo (fun (a : Int32) y => cf_fo (fun (a : Int32) x => cf_fo (fun (a : Int32) q => if f (64 * (8 * y + x) + q) = 0 then a else a + 1) 64 a) w a) y0 0 → g0 = cf_fo (fun (a : Int32) y => cf_fo (fun (a : Int32) x => cf_fo (fun (a : Int32) q => cf_ms a (f (64 * (8 * y + x) + q))) 64 a) w a) y0 0 → ∀ (ls : Array Slot), lv_has ls 8 [(0, .ref o), (1, .int t), (2, .int n0), (3, .int g0), (4, .int (nI y0))] → W p l e (headSpec wsY1_lookAll ({ frames := 1, cells := 0, slots := 0, locals := 21 })).room s m ([.ref o, .int t] : List Value).toArray below meth c s.heap [] 0 0 (MQ below (vp_Si (fun r : Int32 => r = if t = 0 then cf_mo w h (cf_V f) else cf_nz w h (cf_V f))) ([.ref o, .int t] : List Value).toArray s 0 0 (fun _ => False)) (F0 m 7 ls []) := by
    intro n7
    induction n7 with
    | zero => intro y0 n0 g0 h1 h2; exact absurd h2 (by omega)
    | succ n7 ih7 =>
      intro y0 n0 g0 hk7 hn7 hIn hIg ls hl
      refine lv_iload hx hb dY1_lookAll_7 (lv_at hl 4 rfl) ?_
      refine lv_aload_n hx hb dY1_lookAll_9 rfl (lv_at hl 0 rfl) ?_
      refine va_get (D := (dC, dI)) (ci := 1) (v := .int (nI h)) (C := RY1) (T := TY1) (N := 8) hx hb hts (by decide +kernel) hown hK hP 0 rfl rfl 2 (by decide) (hts (.fieldLink RY1 27 "CoefTurnsModel" "h" "I") (by decide +kernel)) (fun _ h9 => h9) rfl dY1_lookAll_10 ?_
      refine lv_icmp_ge (tgt := 112) hx hb dY1_lookAll_13 (by decide) (fun c13 => ?_) (fun c13 => ?_)
      · skip
        have c13 := (nI_leI (a := h) (b := y0) (by omega) (by omega)).mp c13
        refine lv_iload_n hx hb dY1_lookAll_112 rfl (lv_at hl 1 rfl) ?_
        refine lv_if_eq (tgt := 120) hx hb dY1_lookAll_113 (by decide) (fun c113 => ?_) (fun c113 => ?_)
        · skip
          refine lv_iload_n hx hb dY1_lookAll_120 rfl (lv_at hl 3 rfl) ?_
          exact W.iret hx hb hr (fun t ht hW => ⟨_, rfl, (by have e : y0 = h := (by omega); first | (rw [if_pos c113, hIg, e]; rfl) | (rw [if_neg c113, hIn, e]; rfl)), ht⟩) (fun q h => by cases h) dY1_lookAll_121
        · skip
          refine lv_iload_n hx hb dY1_lookAll_116 rfl (lv_at hl 2 rfl) ?_
          refine lv_goto (tgt := 121) hx hb dY1_lookAll_117 (by decide) ?_
          exact W.iret hx hb hr (fun t ht hW => ⟨_, rfl, (by have e : y0 = h := (by omega); first | (rw [if_pos c113, hIg, e]; rfl) | (rw [if_neg c113, hIn, e]; rfl)), ht⟩) (fun q h => by cases h) dY1_lookAll_121
      · skip
        have c13 := mt (nI_leI (a := h) (b := y0) (by omega) (by omega)).mpr c13
        refine lv_iconst (v := nI 0) hx hb dY1_lookAll_16 (by decide +kernel) ?_
        refine lv_istore (lv' := [(5, .int (nI 0)), (0, .ref o), (1, .int t), (2, .int n0), (3, .int g0), (4, .int (nI y0))]) hx hb dY1_lookAll_17 hl (by decide) rfl (fun ls hl => ?_)
        have lp19 : ∀ (n19 : Nat) (x0 : Nat) (n1 : Int32) (g1 : Int32), x0 ≤ w → w < x0 + n19 → n1 = cf_fo (fun (a : Int32) x => cf_fo (fun (a : Int32) q => if f (64 * (8 * y0 + x) + q) = 0 then a else a + 1) 64 a) x0 n0 → g1 = cf_fo (fun (a : Int32) x => cf_fo (fun (a : Int32) q => cf_ms a (f (64 * (8 * y0 + x) + q))) 64 a) x0 g0 → ∀ (ls : Array Slot), lv_has ls 8 [(0, .ref o), (1, .int t), (2, .int n1), (3, .int g1), (4, .int (nI y0)), (5, .int (nI x0))] → W p l e (headSpec wsY1_lookAll ({ frames := 1, cells := 0, slots := 0, locals := 21 })).room s m ([.ref o, .int t] : List Value).toArray below meth c s.heap [] 0 0 (MQ below (vp_Si (fun r : Int32 => r = if t = 0 then cf_mo w h (cf_V f) else cf_nz w h (cf_V f))) ([.ref o, .int t] : List Value).toArray s 0 0 (fun _ => False)) (F0 m 19 ls []) := by
          intro n19
          induction n19 with
          | zero => intro x0 n1 g1 h1 h2; exact absurd h2 (by omega)
          | succ n19 ih19 =>
            intro x0 n1 g1 hk19 hn19 hJn hJg ls hl
            refine lv_iload hx hb dY1_lookAll_19 (lv_at hl 5 rfl) ?_
            refine lv_aload_n hx hb dY1_lookAll_21 rfl (lv_at hl 0 rfl) ?_
            refine va_get (D := (dC, dI)) (ci := 1) (v := .int (nI w)) (C := RY1) (T := TY1) (N := 8) hx hb hts (by decide +kernel) hown hK hP 0 rfl rfl 1 (by decide) (hts (.fieldLink RY1 23 "CoefTurnsModel" "w" "I") (by decide +kernel)) (fun _ h9 => h9) rfl dY1_lookAll_22 ?_
            refine lv_icmp_ge (tgt := 106) hx hb dY1_lookAll_25 (by decide) (fun c25 => ?_) (fun c25 => ?_)
            · skip
              have c25 := (nI_leI (a := w) (b := x0) (by omega) (by omega)).mp c25
              refine lv_iinc (v := nI (y0 + 1)) (lv' := [(4, .int (nI (y0 + 1))), (0, .ref o), (1, .int t), (2, .int n1), (3, .int g1), (5, .int (nI x0))]) hx hb dY1_lookAll_106 hl (k := 4) rfl (by rw [← nI_add]; rfl) (by decide) rfl (fun ls hl => ?_)
              refine lv_goto (tgt := 7) hx hb dY1_lookAll_109 (by decide) ?_
              exact ih7 (y0 + 1) n1 g1 (by omega) (by omega) (by have e : x0 = w := (by omega); rw [hJn, e, hIn]; rfl) (by have e : x0 = w := (by omega); rw [hJg, e, hIg]; rfl) ls (lv_sub hl [1, 2, 3, 4, 0] rfl)
            · skip
              have c25 := mt (nI_leI (a := w) (b := x0) (by omega) (by omega)).mpr c25
              refine lv_iconst (v := nI 0) hx hb dY1_lookAll_28 (by decide +kernel) ?_
              refine lv_istore (lv' := [(6, .int (nI 0)), (0, .ref o), (1, .int t), (2, .int n1), (3, .int g1), (4, .int (nI y0)), (5, .int (nI x0))]) hx hb dY1_lookAll_29 hl (by decide) rfl (fun ls hl => ?_)
              have lp31 : ∀ (n31 : Nat) (p0 : Nat) (n2 : Int32) (g2 : Int32), p0 ≤ 64 → 64 < p0 + n31 → n2 = cf_fo (fun (a : Int32) q => if f (64 * (8 * y0 + x0) + q) = 0 then a else a + 1) p0 n1 → g2 = cf_fo (fun (a : Int32) q => cf_ms a (f (64 * (8 * y0 + x0) + q))) p0 g1 → ∀ (ls : Array Slot), lv_has ls 8 [(0, .ref o), (1, .int t), (2, .int n2), (3, .int g2), (4, .int (nI y0)), (5, .int (nI x0)), (6, .int (nI p0))] → W p l e (headSpec wsY1_lookAll ({ frames := 1, cells := 0, slots := 0, locals := 21 })).room s m ([.ref o, .int t] : List Value).toArray below meth c s.heap [] 0 0 (MQ below (vp_Si (fun r : Int32 => r = if t = 0 then cf_mo w h (cf_V f) else cf_nz w h (cf_V f))) ([.ref o, .int t] : List Value).toArray s 0 0 (fun _ => False)) (F0 m 31 ls []) := by
                intro n31
                induction n31 with
                | zero => intro p0 n2 g2 h1 h2; exact absurd h2 (by omega)
                | succ n31 ih31 =>
                  intro p0 n2 g2 hk31 hn31 hLn hLg ls hl
                  refine lv_iload hx hb dY1_lookAll_31 (lv_at hl 6 rfl) ?_
                  refine lv_bipush (v := nI 64) hx hb dY1_lookAll_33 (by decide +kernel) ?_
                  refine lv_icmp_ge (tgt := 100) hx hb dY1_lookAll_35 (by decide) (fun c35 => ?_) (fun c35 => ?_)
                  · skip
                    have c35 := (nI_leI (a := 64) (b := p0) (by omega) (by omega)).mp c35
                    refine lv_iinc (v := nI (x0 + 1)) (lv' := [(5, .int (nI (x0 + 1))), (0, .ref o), (1, .int t), (2, .int n2), (3, .int g2), (4, .int (nI y0)), (6, .int (nI p0))]) hx hb dY1_lookAll_100 hl (k := 5) rfl (by rw [← nI_add]; rfl) (by decide) rfl (fun ls hl => ?_)
                    refine lv_goto (tgt := 19) hx hb dY1_lookAll_103 (by decide) ?_
                    exact ih19 (x0 + 1) n2 g2 (by omega) (by omega) (by have e : p0 = 64 := (by omega); rw [hLn, e, hJn]; rfl) (by have e : p0 = 64 := (by omega); rw [hLg, e, hJg]; rfl) ls (lv_sub hl [1, 2, 3, 4, 5, 0] rfl)
                  · skip
                    have c35 := mt (nI_leI (a := 64) (b := p0) (by omega) (by omega)).mpr c35
                    refine lv_aload_n hx hb dY1_lookAll_38 rfl (lv_at hl 0 rfl) ?_
                    refine va_get (D := (dC, dI)) (ci := 1) (v := .ref b1) (C := RY1) (T := TY1) (N := 8) hx hb hts (by decide +kernel) hown hK hP 0 rfl rfl 5 (by decide) (hts (.fieldLink RY1 7 "CoefTurnsModel" "plane" "[I") (by decide +kernel)) (fun _ h9 => h9) rfl dY1_lookAll_39 ?_
                    refine lv_iload hx hb dY1_lookAll_42 (lv_at hl 5 rfl) ?_
                    refine lv_iload hx hb dY1_lookAll_44 (lv_at hl 4 rfl) ?_
                    refine vp_callSi (W.runS (As := [.int (nI x0), .int (nI y0)]) (rest := [.ref b1]) ⟨hx, hb, hml, hown, hts⟩ (kY1_block l x0 y0) (va_cwS 2 hts gY1_lookAll_Y1_block rfl rfl rfl (by decide +kernel) ⟨Nat.le_of_ble_eq_true rfl, Nat.le_of_ble_eq_true rfl⟩) ⟨fun a U g mk q => q, fun U hU hW => ⟨rfl, trivial⟩⟩ rfl rfl hl.1 rfl (lv_room (Nat.le_of_ble_eq_true rfl)) dY1_lookAll_46 ⟨Nat.le_of_ble_eq_true rfl, Nat.le_of_ble_eq_true rfl⟩) (fun r46 w46 => ?_)
                    subst w46
                    refine lv_iload hx hb dY1_lookAll_49 (lv_at hl 6 rfl) ?_
                    refine lv_iadd hx hb dY1_lookAll_51 ?_
                    refine cf_top (nI_add _ _) ?_
                    refine cf_iald (D := (dC, dI)) hx hb hK hP 1 0 rfl rfl (k := 64 * (8 * y0 + x0) + p0) (by omega) (by decide) dY1_lookAll_52 ?_
                    refine lv_istore (lv' := [(7, .int (f (64 * (8 * y0 + x0) + p0))), (0, .ref o), (1, .int t), (2, .int n2), (3, .int g2), (4, .int (nI y0)), (5, .int (nI x0)), (6, .int (nI p0))]) hx hb dY1_lookAll_53 hl (by decide) rfl (fun ls hl => ?_)
                    refine lv_iload_n hx hb dY1_lookAll_55 rfl (lv_at hl 3 rfl) ?_
                    refine lv_iload hx hb dY1_lookAll_56 (lv_at hl 0 rfl) ?_
                    refine lv_if_eq (tgt := 65) hx hb dY1_lookAll_58 (by decide) (fun c58 => ?_) (fun c58 => ?_)
                    · skip
                      refine lv_iconst (v := nI 0) hx hb dY1_lookAll_65 (by decide +kernel) ?_
                      refine lv_iadd hx hb dY1_lookAll_66 ?_
                      refine lv_istore_n (lv' := [(2, .int (n2 + (nI 0))), (7, .int (f (64 * (8 * y0 + x0) + p0))), (0, .ref o), (1, .int t), (3, .int g2), (4, .int (nI y0)), (5, .int (nI x0)), (6, .int (nI p0))]) hx hb dY1_lookAll_67 rfl hl (by decide) rfl (fun ls hl => ?_)
                      refine lv_iload hx hb dY1_lookAll_68 (lv_at hl 1 rfl) ?_
                      refine lv_iload_n hx hb dY1_lookAll_70 rfl (lv_at hl 4 rfl) ?_
                      refine lv_icmp_le (tgt := 79) hx hb dY1_lookAll_71 (by decide) (fun c71 => ?_) (fun c71 => ?_)
                      · skip
                        refine lv_iload hx hb dY1_lookAll_79 (lv_at hl 1 rfl) ?_
                        refine lv_ineg hx hb dY1_lookAll_81 ?_
                        refine lv_iload_n hx hb dY1_lookAll_82 rfl (lv_at hl 4 rfl) ?_
                        refine lv_icmp_le (tgt := 92) hx hb dY1_lookAll_83 (by decide) (fun c83 => ?_) (fun c83 => ?_)
                        · skip
                          refine lv_iload_n hx hb dY1_lookAll_92 rfl (lv_at hl 4 rfl) ?_
                          refine lv_istore_n (lv' := [(3, .int g2), (2, .int (n2 + (nI 0))), (7, .int (f (64 * (8 * y0 + x0) + p0))), (0, .ref o), (1, .int t), (4, .int (nI y0)), (5, .int (nI x0)), (6, .int (nI p0))]) hx hb dY1_lookAll_93 rfl hl (by decide) rfl (fun ls hl => ?_)
                          refine lv_iinc (v := nI (p0 + 1)) (lv' := [(6, .int (nI (p0 + 1))), (3, .int g2), (2, .int (n2 + (nI 0))), (7, .int (f (64 * (8 * y0 + x0) + p0))), (0, .ref o), (1, .int t), (4, .int (nI y0)), (5, .int (nI x0))]) hx hb dY1_lookAll_94 hl (k := 7) rfl (by rw [← nI_add]; rfl) (by decide) rfl (fun ls hl => ?_)
                          refine lv_goto (tgt := 31) hx hb dY1_lookAll_97 (by decide) ?_
                          exact ih31 (p0 + 1) (n2 + (nI 0)) g2 (by omega) (by omega) (by rw [cf_fo_1, ← hLn]; first | exact cf_ifp c58 | exact cf_ifn c58) (by rw [cf_fo_1, ← hLg]; unfold cf_ms; first | rw [if_pos (cf_nle c71)] | rw [if_neg (cf_nlt c71), if_pos (cf_nle c83)] | rw [if_neg (cf_nlt c71), if_neg (cf_nlt c83)]) ls (lv_sub hl [4, 5, 2, 1, 6, 7, 0] rfl)
                        · skip
                          refine lv_iload hx hb dY1_lookAll_86 (lv_at hl 1 rfl) ?_
                          refine lv_ineg hx hb dY1_lookAll_88 ?_
                          refine lv_goto (tgt := 93) hx hb dY1_lookAll_89 (by decide) ?_
                          refine lv_istore_n (lv' := [(3, .int (-(f (64 * (8 * y0 + x0) + p0)))), (2, .int (n2 + (nI 0))), (7, .int (f (64 * (8 * y0 + x0) + p0))), (0, .ref o), (1, .int t), (4, .int (nI y0)), (5, .int (nI x0)), (6, .int (nI p0))]) hx hb dY1_lookAll_93 rfl hl (by decide) rfl (fun ls hl => ?_)
                          refine lv_iinc (v := nI (p0 + 1)) (lv' := [(6, .int (nI (p0 + 1))), (3, .int (-(f (64 * (8 * y0 + x0) + p0)))), (2, .int (n2 + (nI 0))), (7, .int (f (64 * (8 * y0 + x0) + p0))), (0, .ref o), (1, .int t), (4, .int (nI y0)), (5, .int (nI x0))]) hx hb dY1_lookAll_94 hl (k := 7) rfl (by rw [← nI_add]; rfl) (by decide) rfl (fun ls hl => ?_)
                          refine lv_goto (tgt := 31) hx hb dY1_lookAll_97 (by decide) ?_
                          exact ih31 (p0 + 1) (n2 + (nI 0)) (-(f (64 * (8 * y0 + x0) + p0))) (by omega) (by omega) (by rw [cf_fo_1, ← hLn]; first | exact cf_ifp c58 | exact cf_ifn c58) (by rw [cf_fo_1, ← hLg]; unfold cf_ms; first | rw [if_pos (cf_nle c71)] | rw [if_neg (cf_nlt c71), if_pos (cf_nle c83)] | rw [if_neg (cf_nlt c71), if_neg (cf_nlt c83)]) ls (lv_sub hl [4, 5, 2, 1, 6, 7, 0] rfl)
                      · skip
                        refine lv_iload hx hb dY1_lookAll_74 (lv_at hl 1 rfl) ?_
                        refine lv_goto (tgt := 93) hx hb dY1_lookAll_76 (by decide) ?_
                        refine lv_istore_n (lv' := [(3, .int (f (64 * (8 * y0 + x0) + p0))), (2, .int (n2 + (nI 0))), (7, .int (f (64 * (8 * y0 + x0) + p0))), (0, .ref o), (1, .int t), (4, .int (nI y0)), (5, .int (nI x0)), (6, .int (nI p0))]) hx hb dY1_lookAll_93 rfl hl (by decide) rfl (fun ls hl => ?_)
                        refine lv_iinc (v := nI (p0 + 1)) (lv' := [(6, .int (nI (p0 + 1))), (3, .int (f (64 * (8 * y0 + x0) + p0))), (2, .int (n2 + (nI 0))), (7, .int (f (64 * (8 * y0 + x0) + p0))), (0, .ref o), (1, .int t), (4, .int (nI y0)), (5, .int (nI x0))]) hx hb dY1_lookAll_94 hl (k := 7) rfl (by rw [← nI_add]; rfl) (by decide) rfl (fun ls hl => ?_)
                        refine lv_goto (tgt := 31) hx hb dY1_lookAll_97 (by decide) ?_
                        exact ih31 (p0 + 1) (n2 + (nI 0)) (f (64 * (8 * y0 + x0) + p0)) (by omega) (by omega) (by rw [cf_fo_1, ← hLn]; first | exact cf_ifp c58 | exact cf_ifn c58) (by rw [cf_fo_1, ← hLg]; unfold cf_ms; first | rw [if_pos (cf_nle c71)] | rw [if_neg (cf_nlt c71), if_pos (cf_nle c83)] | rw [if_neg (cf_nlt c71), if_neg (cf_nlt c83)]) ls (lv_sub hl [4, 5, 2, 1, 6, 7, 0] rfl)
                    · skip
                      refine lv_iconst (v := nI 1) hx hb dY1_lookAll_61 (by decide +kernel) ?_
                      refine lv_goto (tgt := 66) hx hb dY1_lookAll_62 (by decide) ?_
                      refine lv_iadd hx hb dY1_lookAll_66 ?_
                      refine lv_istore_n (lv' := [(2, .int (n2 + (nI 1))), (7, .int (f (64 * (8 * y0 + x0) + p0))), (0, .ref o), (1, .int t), (3, .int g2), (4, .int (nI y0)), (5, .int (nI x0)), (6, .int (nI p0))]) hx hb dY1_lookAll_67 rfl hl (by decide) rfl (fun ls hl => ?_)
                      refine lv_iload hx hb dY1_lookAll_68 (lv_at hl 1 rfl) ?_
                      refine lv_iload_n hx hb dY1_lookAll_70 rfl (lv_at hl 4 rfl) ?_
                      refine lv_icmp_le (tgt := 79) hx hb dY1_lookAll_71 (by decide) (fun c71 => ?_) (fun c71 => ?_)
                      · skip
                        refine lv_iload hx hb dY1_lookAll_79 (lv_at hl 1 rfl) ?_
                        refine lv_ineg hx hb dY1_lookAll_81 ?_
                        refine lv_iload_n hx hb dY1_lookAll_82 rfl (lv_at hl 4 rfl) ?_
                        refine lv_icmp_le (tgt := 92) hx hb dY1_lookAll_83 (by decide) (fun c83 => ?_) (fun c83 => ?_)
                        · skip
                          refine lv_iload_n hx hb dY1_lookAll_92 rfl (lv_at hl 4 rfl) ?_
                          refine lv_istore_n (lv' := [(3, .int g2), (2, .int (n2 + (nI 1))), (7, .int (f (64 * (8 * y0 + x0) + p0))), (0, .ref o), (1, .int t), (4, .int (nI y0)), (5, .int (nI x0)), (6, .int (nI p0))]) hx hb dY1_lookAll_93 rfl hl (by decide) rfl (fun ls hl => ?_)
                          refine lv_iinc (v := nI (p0 + 1)) (lv' := [(6, .int (nI (p0 + 1))), (3, .int g2), (2, .int (n2 + (nI 1))), (7, .int (f (64 * (8 * y0 + x0) + p0))), (0, .ref o), (1, .int t), (4, .int (nI y0)), (5, .int (nI x0))]) hx hb dY1_lookAll_94 hl (k := 7) rfl (by rw [← nI_add]; rfl) (by decide) rfl (fun ls hl => ?_)
                          refine lv_goto (tgt := 31) hx hb dY1_lookAll_97 (by decide) ?_
                          exact ih31 (p0 + 1) (n2 + (nI 1)) g2 (by omega) (by omega) (by rw [cf_fo_1, ← hLn]; first | exact cf_ifp c58 | exact cf_ifn c58) (by rw [cf_fo_1, ← hLg]; unfold cf_ms; first | rw [if_pos (cf_nle c71)] | rw [if_neg (cf_nlt c71), if_pos (cf_nle c83)] | rw [if_neg (cf_nlt c71), if_neg (cf_nlt c83)]) ls (lv_sub hl [4, 5, 2, 1, 6, 7, 0] rfl)
                        · skip
                          refine lv_iload hx hb dY1_lookAll_86 (lv_at hl 1 rfl) ?_
                          refine lv_ineg hx hb dY1_lookAll_88 ?_
                          refine lv_goto (tgt := 93) hx hb dY1_lookAll_89 (by decide) ?_
                          refine lv_istore_n (lv' := [(3, .int (-(f (64 * (8 * y0 + x0) + p0)))), (2, .int (n2 + (nI 1))), (7, .int (f (64 * (8 * y0 + x0) + p0))), (0, .ref o), (1, .int t), (4, .int (nI y0)), (5, .int (nI x0)), (6, .int (nI p0))]) hx hb dY1_lookAll_93 rfl hl (by decide) rfl (fun ls hl => ?_)
                          refine lv_iinc (v := nI (p0 + 1)) (lv' := [(6, .int (nI (p0 + 1))), (3, .int (-(f (64 * (8 * y0 + x0) + p0)))), (2, .int (n2 + (nI 1))), (7, .int (f (64 * (8 * y0 + x0) + p0))), (0, .ref o), (1, .int t), (4, .int (nI y0)), (5, .int (nI x0))]) hx hb dY1_lookAll_94 hl (k := 7) rfl (by rw [← nI_add]; rfl) (by decide) rfl (fun ls hl => ?_)
                          refine lv_goto (tgt := 31) hx hb dY1_lookAll_97 (by decide) ?_
                          exact ih31 (p0 + 1) (n2 + (nI 1)) (-(f (64 * (8 * y0 + x0) + p0))) (by omega) (by omega) (by rw [cf_fo_1, ← hLn]; first | exact cf_ifp c58 | exact cf_ifn c58) (by rw [cf_fo_1, ← hLg]; unfold cf_ms; first | rw [if_pos (cf_nle c71)] | rw [if_neg (cf_nlt c71), if_pos (cf_nle c83)] | rw [if_neg (cf_nlt c71), if_neg (cf_nlt c83)]) ls (lv_sub hl [4, 5, 2, 1, 6, 7, 0] rfl)
                      · skip
                        refine lv_iload hx hb dY1_lookAll_74 (lv_at hl 1 rfl) ?_
                        refine lv_goto (tgt := 93) hx hb dY1_lookAll_76 (by decide) ?_
                        refine lv_istore_n (lv' := [(3, .int (f (64 * (8 * y0 + x0) + p0))), (2, .int (n2 + (nI 1))), (7, .int (f (64 * (8 * y0 + x0) + p0))), (0, .ref o), (1, .int t), (4, .int (nI y0)), (5, .int (nI x0)), (6, .int (nI p0))]) hx hb dY1_lookAll_93 rfl hl (by decide) rfl (fun ls hl => ?_)
                        refine lv_iinc (v := nI (p0 + 1)) (lv' := [(6, .int (nI (p0 + 1))), (3, .int (f (64 * (8 * y0 + x0) + p0))), (2, .int (n2 + (nI 1))), (7, .int (f (64 * (8 * y0 + x0) + p0))), (0, .ref o), (1, .int t), (4, .int (nI y0)), (5, .int (nI x0))]) hx hb dY1_lookAll_94 hl (k := 7) rfl (by rw [← nI_add]; rfl) (by decide) rfl (fun ls hl => ?_)
                        refine lv_goto (tgt := 31) hx hb dY1_lookAll_97 (by decide) ?_
                        exact ih31 (p0 + 1) (n2 + (nI 1)) (f (64 * (8 * y0 + x0) + p0)) (by omega) (by omega) (by rw [cf_fo_1, ← hLn]; first | exact cf_ifp c58 | exact cf_ifn c58) (by rw [cf_fo_1, ← hLg]; unfold cf_ms; first | rw [if_pos (cf_nle c71)] | rw [if_neg (cf_nlt c71), if_pos (cf_nle c83)] | rw [if_neg (cf_nlt c71), if_neg (cf_nlt c83)]) ls (lv_sub hl [4, 5, 2, 1, 6, 7, 0] rfl)
              exact lp31 (64 + 1) 0 n1 g1 (by omega) (by omega) rfl rfl ls (lv_sub hl [1, 2, 3, 4, 5, 6, 0] rfl)
        exact lp19 (w + 1) 0 n0 g0 (by omega) (by omega) rfl rfl ls (lv_sub hl [1, 2, 3, 4, 5, 0] rfl)
  exact lp7 (h + 1) 0 (nI 0) (nI 0) (by omega) (by omega) rfl rfl ls (lv_sub hl [3, 4, 2, 1, 0] rfl)
set_option maxHeartbeats 4000000 in
set_option maxRecDepth 100000 in
/-- Y1_look -/
theorem kY1_look (l : Launch) (dC : Nat → ClassId) (dI : Nat → Nat → Nat) (sz : Nat) (o b1 b2 b3 : Nat) (cC cD cE : ClassId) (f g md : Nat → Int32) (th : Int32) (w h kw kh : Nat) (i : Int32) (hw : w ≤ 8) (hh : h ≤ 8) : Met l yY1_look wsY1_look ({ frames := 2, cells := 0, slots := 0, locals := 48 }) (va_Pc [.ref o, .int i] (fun U => U.heap.size = sz ∧ va_P (dC, dI) vwCm [(o, .inr (1, [.int th, .int (nI w), .int (nI h), .int (nI kw), .int (nI kh), .ref b1, .ref b2, .ref b3])), (b1, .inl (cC, 4096, .inl f)), (b2, .inl (cD, 4096, .inl g)), (b3, .inl (cE, 4096, .inl md))] U.heap ∧ va_K (dC, dI) vwCm [(cC, .int), (cD, .int), (cE, .int)] U ∧ va_D (fun _ => True) [(o, .inr (1, [.int th, .int (nI w), .int (nI h), .int (nI kw), .int (nI kh), .ref b1, .ref b2, .ref b3])), (b1, .inl (cC, 4096, .inl f)), (b2, .inl (cD, 4096, .inl g)), (b3, .inl (cE, 4096, .inl md))])) (va_Qi (fun (r : Int32) (_ : Unit) => r = cf_lk w h kw kh (cf_V f) i) (fun (u : Unit) (t : State) => va_P (dC, dI) vwCm [(o, .inr (1, [.int (nI 0), .int (nI w), .int (nI h), .int (nI kw), .int (nI kh), .ref b1, .ref b2, .ref b3])), (b1, .inl (cC, 4096, .inl f)), (b2, .inl (cD, 4096, .inl g)), (b3, .inl (cE, 4096, .inl md))] t.heap ∧ va_K (dC, dI) vwCm [(cC, .int), (cD, .int), (cE, .int)] t ∧ va_D (va_A [(o, .inr (1, [.int th, .int (nI w), .int (nI h), .int (nI kw), .int (nI kh), .ref b1, .ref b2, .ref b3])), (b1, .inl (cC, 4096, .inl f)), (b2, .inl (cD, 4096, .inl g)), (b3, .inl (cE, 4096, .inl md))] sz) [(o, .inr (1, [.int (nI 0), .int (nI w), .int (nI h), .int (nI kw), .int (nI kh), .ref b1, .ref b2, .ref b3])), (b1, .inl (cC, 4096, .inl f)), (b2, .inl (cD, 4096, .inl g)), (b3, .inl (cE, 4096, .inl md))]) (va_A [(o, .inr (1, [.int th, .int (nI w), .int (nI h), .int (nI kw), .int (nI kh), .ref b1, .ref b2, .ref b3])), (b1, .inl (cC, 4096, .inl f)), (b2, .inl (cD, 4096, .inl g)), (b3, .inl (cE, 4096, .inl md))] sz)) 0 0 (va_A [(o, .inr (1, [.int th, .int (nI w), .int (nI h), .int (nI kw), .int (nI kh), .ref b1, .ref b2, .ref b3])), (b1, .inl (cC, 4096, .inl f)), (b2, .inl (cD, 4096, .inl g)), (b3, .inl (cE, 4096, .inl md))] sz) := by
  refine Met.ofW (cc := cY1_look) (maxL := 2) (ret := (some .int)) (by decide) rfl ?_
  intro p e s m args below meth c s₁ B hml hv
  obtain ⟨rfl, hsz, hP, hK, hD0⟩ := hv
  have hx := B.exec
  have hb := B.bytes
  have hr := B.returns
  have hts := atoms_spec (ws := wsY1_look) B.pre
  have hown : s.vm.findClass RY1 = some m.cls := findClass_of_methodNamed B.named
  have hlocks := B.notSynchronized
  subst hsz
  have hD := hD0.self (sz := s.heap.size)
  generalize hAe : va_A [(o, .inr (1, [.int th, .int (nI w), .int (nI h), .int (nI kw), .int (nI kh), .ref b1, .ref b2, .ref b3])), (b1, .inl (cC, 4096, .inl f)), (b2, .inl (cD, 4096, .inl g)), (b3, .inl (cE, 4096, .inl md))] s.heap.size = A at hD ⊢
  have hA : ∀ q : Nat, s.heap.size ≤ q → A q := fun q h => by rw [← hAe]; exact Or.inr h
  have hS : va_S A s.heap s.heap [] := va_S.rf
  have hP : va_P (dC, dI) vwCm [(o, .inr (1, [.int th, .int (nI w), .int (nI h), .int (nI kw), .int (nI kh), .ref b1, .ref b2, .ref b3])), (b1, .inl (cC, 4096, .inl f)), (b2, .inl (cD, 4096, .inl g)), (b3, .inl (cE, 4096, .inl md))] s.heap := hP
  have hl := lv_entry ([.ref o, .int i]) (n := 2) (Nat.le_of_ble_eq_true rfl)
  rw [lg_entry_eq]
  generalize (lg_sl ([.ref o, .int i]) ++ List.replicate (2 - (lg_sl ([.ref o, .int i])).length) Slot.unset).toArray = ls at hl ⊢
  have hl : lv_has ls 2 [(0, .ref o), (1, .int i)] := hl
  refine lv_aload_n hx hb dY1_look_0 rfl (lv_at hl 0 rfl) ?_
  refine lv_iconst (v := nI 0) hx hb dY1_look_1 (by decide +kernel) ?_
  refine va_put (D := (dC, dI)) (ci := 1) (v := .int (nI 0)) (ty := .int) (C := RY1) (T := TY1) (N := 8) hx hb hts (by decide +kernel) tyY1 tyY1_ok nmY1 hown hK hP hD hS 0 rfl rfl 0 (by decide) (hts (.fieldLink RY1 36 "CoefTurnsModel" "thrown" "I") (by decide +kernel)) (fun _ h9 => h9) rfl (by decide +kernel) rfl rfl (Nat.le_of_ble_eq_true rfl) dY1_look_2 (fun H locs hP hD hS => ?_)
  have hP : va_P (dC, dI) vwCm [(o, .inr (1, [.int (nI 0), .int (nI w), .int (nI h), .int (nI kw), .int (nI kh), .ref b1, .ref b2, .ref b3])), (b1, .inl (cC, 4096, .inl f)), (b2, .inl (cD, 4096, .inl g)), (b3, .inl (cE, 4096, .inl md))] H := hP
  have hD : va_D A [(o, .inr (1, [.int (nI 0), .int (nI w), .int (nI h), .int (nI kw), .int (nI kh), .ref b1, .ref b2, .ref b3])), (b1, .inl (cC, 4096, .inl f)), (b2, .inl (cD, 4096, .inl g)), (b3, .inl (cE, 4096, .inl md))] := hD
  refine lv_iload_n hx hb dY1_look_5 rfl (lv_at hl 1 rfl) ?_
  by_cases e0 : i = nI 0
  · skip
    refine cf_top e0 ?_
    refine lv_tableIn (off := 38) (tgt := 44) hx hb dY1_look_6 (by decide +kernel) (by decide +kernel) (by decide +kernel) (by decide) ?_
    refine lv_aload_n hx hb dY1_look_44 rfl (lv_at hl 0 rfl) ?_
    refine va_get (D := (dC, dI)) (ci := 1) (v := .int (nI w)) (C := RY1) (T := TY1) (N := 8) hx hb hts (by decide +kernel) hown hK hP 0 rfl rfl 1 (by decide) (hts (.fieldLink RY1 23 "CoefTurnsModel" "w" "I") (by decide +kernel)) (fun _ h9 => h9) rfl dY1_look_45 ?_
    have hP9 := hP.sub (ws' := [(o, .inr (1, [.int (nI 0), .int (nI w), .int (nI h), .int (nI kw), .int (nI kh), .ref b1, .ref b2, .ref b3])), (b1, .inl (cC, 4096, .inl f)), (b2, .inl (cD, 4096, .inl g)), (b3, .inl (cE, 4096, .inl md))]) [0, 1, 2, 3] rfl
    have hD9 := hD.sub (ws' := [(o, .inr (1, [.int (nI 0), .int (nI w), .int (nI h), .int (nI kw), .int (nI kh), .ref b1, .ref b2, .ref b3])), (b1, .inl (cC, 4096, .inl f)), (b2, .inl (cD, 4096, .inl g)), (b3, .inl (cE, 4096, .inl md))]) [0, 1, 2, 3] (by decide) rfl
    exact W.iret hx hb hr (fun t ht hW => ⟨⟨_, (), rfl, (by unfold cf_lk; rw [if_pos e0]), by rw [ht]; exact hP9, va_K.moved hW.alike hK, hD9⟩, hS.F ht⟩) hS.2.2 dY1_look_48
  by_cases e1 : i = nI 1
  · skip
    refine cf_top e1 ?_
    refine lv_tableIn (off := 43) (tgt := 49) hx hb dY1_look_6 (by decide +kernel) (by decide +kernel) (by decide +kernel) (by decide) ?_
    refine lv_aload_n hx hb dY1_look_49 rfl (lv_at hl 0 rfl) ?_
    refine va_get (D := (dC, dI)) (ci := 1) (v := .int (nI h)) (C := RY1) (T := TY1) (N := 8) hx hb hts (by decide +kernel) hown hK hP 0 rfl rfl 2 (by decide) (hts (.fieldLink RY1 27 "CoefTurnsModel" "h" "I") (by decide +kernel)) (fun _ h9 => h9) rfl dY1_look_50 ?_
    have hP9 := hP.sub (ws' := [(o, .inr (1, [.int (nI 0), .int (nI w), .int (nI h), .int (nI kw), .int (nI kh), .ref b1, .ref b2, .ref b3])), (b1, .inl (cC, 4096, .inl f)), (b2, .inl (cD, 4096, .inl g)), (b3, .inl (cE, 4096, .inl md))]) [0, 1, 2, 3] rfl
    have hD9 := hD.sub (ws' := [(o, .inr (1, [.int (nI 0), .int (nI w), .int (nI h), .int (nI kw), .int (nI kh), .ref b1, .ref b2, .ref b3])), (b1, .inl (cC, 4096, .inl f)), (b2, .inl (cD, 4096, .inl g)), (b3, .inl (cE, 4096, .inl md))]) [0, 1, 2, 3] (by decide) rfl
    exact W.iret hx hb hr (fun t ht hW => ⟨⟨_, (), rfl, (by unfold cf_lk; rw [if_neg e0, if_pos e1]), by rw [ht]; exact hP9, va_K.moved hW.alike hK, hD9⟩, hS.F ht⟩) hS.2.2 dY1_look_53
  by_cases e2 : i = nI 2
  · skip
    refine cf_top e2 ?_
    refine lv_tableIn (off := 48) (tgt := 54) hx hb dY1_look_6 (by decide +kernel) (by decide +kernel) (by decide +kernel) (by decide) ?_
    refine lv_aload_n hx hb dY1_look_54 rfl (lv_at hl 0 rfl) ?_
    refine lv_iconst (v := nI 1) hx hb dY1_look_55 (by decide +kernel) ?_
    have hPc := hP.sub (ws' := [(o, .inr (1, [.int (nI 0), .int (nI w), .int (nI h), .int (nI kw), .int (nI kh), .ref b1, .ref b2, .ref b3])), (b1, .inl (cC, 4096, .inl f)), (b2, .inl (cD, 4096, .inl g)), (b3, .inl (cE, 4096, .inl md))]) [0, 1, 2, 3] rfl
    have hKc := hK.sub (tys' := [(cC, .int), (cD, .int), (cE, .int)]) [0, 1, 2] rfl
    refine vp_callSi (W.runV (As := [.int (nI 1)]) (rest := []) ⟨hx, hb, hml, hown, hts⟩ (kY1_lookAll l dC dI o b1 b2 b3 cC cD cE f g md (nI 0) w h kw kh (nI 1) (by omega) (by omega)) (cwV 1 hts gY1_look_Y1_lookAll rfl rfl rfl (by decide +kernel) ⟨Nat.le_of_ble_eq_true rfl, Nat.le_of_ble_eq_true rfl⟩) ⟨fun a U g mk q => by obtain ⟨q0, qP, qK⟩ := q; exact ⟨q0, qP, va_K.moved (u := U) (U := U.calling g mk a) (Vm.Alike.refl U.vm) qK⟩, va_recv hKc hPc (ci := 1) (q0 := 0) rfl rfl, fun U hU hW => ⟨rfl, by rw [hU]; exact hPc, va_K.moved hW.alike hKc⟩⟩ rfl rfl hl.1 rfl (lv_room (Nat.le_of_ble_eq_true rfl)) dY1_look_56 ⟨Nat.le_of_ble_eq_true rfl, Nat.le_of_ble_eq_true rfl⟩) (fun r56 w56 => ?_)
    have hP9 := hP.sub (ws' := [(o, .inr (1, [.int (nI 0), .int (nI w), .int (nI h), .int (nI kw), .int (nI kh), .ref b1, .ref b2, .ref b3])), (b1, .inl (cC, 4096, .inl f)), (b2, .inl (cD, 4096, .inl g)), (b3, .inl (cE, 4096, .inl md))]) [0, 1, 2, 3] rfl
    have hD9 := hD.sub (ws' := [(o, .inr (1, [.int (nI 0), .int (nI w), .int (nI h), .int (nI kw), .int (nI kh), .ref b1, .ref b2, .ref b3])), (b1, .inl (cC, 4096, .inl f)), (b2, .inl (cD, 4096, .inl g)), (b3, .inl (cE, 4096, .inl md))]) [0, 1, 2, 3] (by decide) rfl
    exact W.iret hx hb hr (fun t ht hW => ⟨⟨_, (), rfl, (by unfold cf_lk; rw [if_neg e0, if_neg e1, if_pos e2, w56, if_neg cf_11]), by rw [ht]; exact hP9, va_K.moved hW.alike hK, hD9⟩, hS.F ht⟩) hS.2.2 dY1_look_59
  by_cases e3 : i = nI 3
  · skip
    refine cf_top e3 ?_
    refine lv_tableIn (off := 54) (tgt := 60) hx hb dY1_look_6 (by decide +kernel) (by decide +kernel) (by decide +kernel) (by decide) ?_
    refine lv_aload_n hx hb dY1_look_60 rfl (lv_at hl 0 rfl) ?_
    refine lv_iconst (v := nI 0) hx hb dY1_look_61 (by decide +kernel) ?_
    have hPc := hP.sub (ws' := [(o, .inr (1, [.int (nI 0), .int (nI w), .int (nI h), .int (nI kw), .int (nI kh), .ref b1, .ref b2, .ref b3])), (b1, .inl (cC, 4096, .inl f)), (b2, .inl (cD, 4096, .inl g)), (b3, .inl (cE, 4096, .inl md))]) [0, 1, 2, 3] rfl
    have hKc := hK.sub (tys' := [(cC, .int), (cD, .int), (cE, .int)]) [0, 1, 2] rfl
    refine vp_callSi (W.runV (As := [.int (nI 0)]) (rest := []) ⟨hx, hb, hml, hown, hts⟩ (kY1_lookAll l dC dI o b1 b2 b3 cC cD cE f g md (nI 0) w h kw kh (nI 0) (by omega) (by omega)) (cwV 1 hts gY1_look_Y1_lookAll rfl rfl rfl (by decide +kernel) ⟨Nat.le_of_ble_eq_true rfl, Nat.le_of_ble_eq_true rfl⟩) ⟨fun a U g mk q => by obtain ⟨q0, qP, qK⟩ := q; exact ⟨q0, qP, va_K.moved (u := U) (U := U.calling g mk a) (Vm.Alike.refl U.vm) qK⟩, va_recv hKc hPc (ci := 1) (q0 := 0) rfl rfl, fun U hU hW => ⟨rfl, by rw [hU]; exact hPc, va_K.moved hW.alike hKc⟩⟩ rfl rfl hl.1 rfl (lv_room (Nat.le_of_ble_eq_true rfl)) dY1_look_62 ⟨Nat.le_of_ble_eq_true rfl, Nat.le_of_ble_eq_true rfl⟩) (fun r62 w62 => ?_)
    have hP9 := hP.sub (ws' := [(o, .inr (1, [.int (nI 0), .int (nI w), .int (nI h), .int (nI kw), .int (nI kh), .ref b1, .ref b2, .ref b3])), (b1, .inl (cC, 4096, .inl f)), (b2, .inl (cD, 4096, .inl g)), (b3, .inl (cE, 4096, .inl md))]) [0, 1, 2, 3] rfl
    have hD9 := hD.sub (ws' := [(o, .inr (1, [.int (nI 0), .int (nI w), .int (nI h), .int (nI kw), .int (nI kh), .ref b1, .ref b2, .ref b3])), (b1, .inl (cC, 4096, .inl f)), (b2, .inl (cD, 4096, .inl g)), (b3, .inl (cE, 4096, .inl md))]) [0, 1, 2, 3] (by decide) rfl
    exact W.iret hx hb hr (fun t ht hW => ⟨⟨_, (), rfl, (by unfold cf_lk; rw [if_neg e0, if_neg e1, if_neg e2, if_pos e3, w62, if_pos nI_0]), by rw [ht]; exact hP9, va_K.moved hW.alike hK, hD9⟩, hS.F ht⟩) hS.2.2 dY1_look_65
  by_cases e4 : i = nI 4
  · skip
    refine cf_top e4 ?_
    refine lv_tableIn (off := 60) (tgt := 66) hx hb dY1_look_6 (by decide +kernel) (by decide +kernel) (by decide +kernel) (by decide) ?_
    refine lv_aload_n hx hb dY1_look_66 rfl (lv_at hl 0 rfl) ?_
    refine va_get (D := (dC, dI)) (ci := 1) (v := .int (nI kw)) (C := RY1) (T := TY1) (N := 8) hx hb hts (by decide +kernel) hown hK hP 0 rfl rfl 3 (by decide) (hts (.fieldLink RY1 30 "CoefTurnsModel" "keptW" "I") (by decide +kernel)) (fun _ h9 => h9) rfl dY1_look_67 ?_
    have hP9 := hP.sub (ws' := [(o, .inr (1, [.int (nI 0), .int (nI w), .int (nI h), .int (nI kw), .int (nI kh), .ref b1, .ref b2, .ref b3])), (b1, .inl (cC, 4096, .inl f)), (b2, .inl (cD, 4096, .inl g)), (b3, .inl (cE, 4096, .inl md))]) [0, 1, 2, 3] rfl
    have hD9 := hD.sub (ws' := [(o, .inr (1, [.int (nI 0), .int (nI w), .int (nI h), .int (nI kw), .int (nI kh), .ref b1, .ref b2, .ref b3])), (b1, .inl (cC, 4096, .inl f)), (b2, .inl (cD, 4096, .inl g)), (b3, .inl (cE, 4096, .inl md))]) [0, 1, 2, 3] (by decide) rfl
    exact W.iret hx hb hr (fun t ht hW => ⟨⟨_, (), rfl, (by unfold cf_lk; rw [if_neg e0, if_neg e1, if_neg e2, if_neg e3, if_pos e4]), by rw [ht]; exact hP9, va_K.moved hW.alike hK, hD9⟩, hS.F ht⟩) hS.2.2 dY1_look_70
  by_cases e5 : i = nI 5
  · skip
    refine cf_top e5 ?_
    refine lv_tableIn (off := 65) (tgt := 71) hx hb dY1_look_6 (by decide +kernel) (by decide +kernel) (by decide +kernel) (by decide) ?_
    refine lv_aload_n hx hb dY1_look_71 rfl (lv_at hl 0 rfl) ?_
    refine va_get (D := (dC, dI)) (ci := 1) (v := .int (nI kh)) (C := RY1) (T := TY1) (N := 8) hx hb hts (by decide +kernel) hown hK hP 0 rfl rfl 4 (by decide) (hts (.fieldLink RY1 33 "CoefTurnsModel" "keptH" "I") (by decide +kernel)) (fun _ h9 => h9) rfl dY1_look_72 ?_
    have hP9 := hP.sub (ws' := [(o, .inr (1, [.int (nI 0), .int (nI w), .int (nI h), .int (nI kw), .int (nI kh), .ref b1, .ref b2, .ref b3])), (b1, .inl (cC, 4096, .inl f)), (b2, .inl (cD, 4096, .inl g)), (b3, .inl (cE, 4096, .inl md))]) [0, 1, 2, 3] rfl
    have hD9 := hD.sub (ws' := [(o, .inr (1, [.int (nI 0), .int (nI w), .int (nI h), .int (nI kw), .int (nI kh), .ref b1, .ref b2, .ref b3])), (b1, .inl (cC, 4096, .inl f)), (b2, .inl (cD, 4096, .inl g)), (b3, .inl (cE, 4096, .inl md))]) [0, 1, 2, 3] (by decide) rfl
    exact W.iret hx hb hr (fun t ht hW => ⟨⟨_, (), rfl, (by unfold cf_lk; rw [if_neg e0, if_neg e1, if_neg e2, if_neg e3, if_neg e4, if_pos e5]), by rw [ht]; exact hP9, va_K.moved hW.alike hK, hD9⟩, hS.F ht⟩) hS.2.2 dY1_look_75
  have f0 := lv_neT e0 (nI_toInt (n := 0) (by omega))
  have f1 := lv_neT e1 (nI_toInt (n := 1) (by omega))
  have f2 := lv_neT e2 (nI_toInt (n := 2) (by omega))
  have f3 := lv_neT e3 (nI_toInt (n := 3) (by omega))
  have f4 := lv_neT e4 (nI_toInt (n := 4) (by omega))
  have f5 := lv_neT e5 (nI_toInt (n := 5) (by omega))
  refine lv_tableOut (tgt := 76) hx hb dY1_look_6 (by omega) (by decide) ?_
  refine lv_iconst (v := (-1)) hx hb dY1_look_76 (by decide +kernel) ?_
  have hP9 := hP.sub (ws' := [(o, .inr (1, [.int (nI 0), .int (nI w), .int (nI h), .int (nI kw), .int (nI kh), .ref b1, .ref b2, .ref b3])), (b1, .inl (cC, 4096, .inl f)), (b2, .inl (cD, 4096, .inl g)), (b3, .inl (cE, 4096, .inl md))]) [0, 1, 2, 3] rfl
  have hD9 := hD.sub (ws' := [(o, .inr (1, [.int (nI 0), .int (nI w), .int (nI h), .int (nI kw), .int (nI kh), .ref b1, .ref b2, .ref b3])), (b1, .inl (cC, 4096, .inl f)), (b2, .inl (cD, 4096, .inl g)), (b3, .inl (cE, 4096, .inl md))]) [0, 1, 2, 3] (by decide) rfl
  exact W.iret hx hb hr (fun t ht hW => ⟨⟨_, (), rfl, (by unfold cf_lk; rw [if_neg e0, if_neg e1, if_neg e2, if_neg e3, if_neg e4, if_neg e5]), by rw [ht]; exact hP9, va_K.moved hW.alike hK, hD9⟩, hS.F ht⟩) hS.2.2 dY1_look_77
