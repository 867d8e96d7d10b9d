set_option maxHeartbeats 4000000 in
set_option maxRecDepth 100000 in
/-- Y1_keep -/
theorem kY1_keep (l : Launch) (dC : Nat → ClassId) (dI : Nat → Nat → Nat) (sz : Nat) (o b1 b2 b3 : Nat) (cC cD cE : ClassId) (f g md : Nat → Int32) (th : Int32) (w h kw kh : Nat) : Met l yY1_keep wsY1_keep ({ frames := 0, cells := 0, slots := 0, locals := 0 }) (va_Pc [.ref o] (fun U => U.heap.size = sz ∧ va_P (dC, dI) vwCm [(o, .inr (1, [.int th, .int (nI w), .int (nI h), .int (nI kw), .int (nI kh), .ref b1, .ref b2, .ref b3])), (b1, .inl (cC, 4096, .inl f)), (b2, .inl (cD, 4096, .inl g)), (b3, .inl (cE, 4096, .inl md))] U.heap ∧ va_K (dC, dI) vwCm [(cC, .int), (cD, .int), (cE, .int)] U ∧ va_D (fun _ => True) [(o, .inr (1, [.int th, .int (nI w), .int (nI h), .int (nI kw), .int (nI kh), .ref b1, .ref b2, .ref b3])), (b1, .inl (cC, 4096, .inl f)), (b2, .inl (cD, 4096, .inl g)), (b3, .inl (cE, 4096, .inl md))])) (va_Qv (fun u : Nat → Int32 => cf_cp 4096 f u) (fun (u : Nat → Int32) (t : State) => va_P (dC, dI) vwCm [(o, .inr (1, [.int (nI 0), .int (nI w), .int (nI h), .int (nI w), .int (nI h), .ref b1, .ref b2, .ref b3])), (b1, .inl (cC, 4096, .inl f)), (b2, .inl (cD, 4096, .inl u)), (b3, .inl (cE, 4096, .inl md))] t.heap ∧ va_K (dC, dI) vwCm [(cC, .int), (cD, .int), (cE, .int)] t ∧ va_D (va_A [(o, .inr (1, [.int th, .int (nI w), .int (nI h), .int (nI kw), .int (nI kh), .ref b1, .ref b2, .ref b3])), (b1, .inl (cC, 4096, .inl f)), (b2, .inl (cD, 4096, .inl g)), (b3, .inl (cE, 4096, .inl md))] sz) [(o, .inr (1, [.int (nI 0), .int (nI w), .int (nI h), .int (nI w), .int (nI h), .ref b1, .ref b2, .ref b3])), (b1, .inl (cC, 4096, .inl f)), (b2, .inl (cD, 4096, .inl u)), (b3, .inl (cE, 4096, .inl md))]) (va_A [(o, .inr (1, [.int th, .int (nI w), .int (nI h), .int (nI kw), .int (nI kh), .ref b1, .ref b2, .ref b3])), (b1, .inl (cC, 4096, .inl f)), (b2, .inl (cD, 4096, .inl g)), (b3, .inl (cE, 4096, .inl md))] sz)) 0 0 (va_A [(o, .inr (1, [.int th, .int (nI w), .int (nI h), .int (nI kw), .int (nI kh), .ref b1, .ref b2, .ref b3])), (b1, .inl (cC, 4096, .inl f)), (b2, .inl (cD, 4096, .inl g)), (b3, .inl (cE, 4096, .inl md))] sz) := by
  refine Met.ofW (cc := cY1_keep) (maxL := 2) (ret := none) (by decide) rfl ?_
  intro p e s m args below meth c s₁ B hml hv
  obtain ⟨rfl, hsz, hP, hK, hD0⟩ := hv
  have hx := B.exec
  have hb := B.bytes
  have hr := B.returns
  have hts := atoms_spec (ws := wsY1_keep) B.pre
  have hown : s.vm.findClass RY1 = some m.cls := findClass_of_methodNamed B.named
  have hlocks := B.notSynchronized
  subst hsz
  have hD := hD0.self (sz := s.heap.size)
  generalize hAe : va_A [(o, .inr (1, [.int th, .int (nI w), .int (nI h), .int (nI kw), .int (nI kh), .ref b1, .ref b2, .ref b3])), (b1, .inl (cC, 4096, .inl f)), (b2, .inl (cD, 4096, .inl g)), (b3, .inl (cE, 4096, .inl md))] s.heap.size = A at hD ⊢
  have hA : ∀ q : Nat, s.heap.size ≤ q → A q := fun q h => by rw [← hAe]; exact Or.inr h
  have hS : va_S A s.heap s.heap [] := va_S.rf
  have hP : va_P (dC, dI) vwCm [(o, .inr (1, [.int th, .int (nI w), .int (nI h), .int (nI kw), .int (nI kh), .ref b1, .ref b2, .ref b3])), (b1, .inl (cC, 4096, .inl f)), (b2, .inl (cD, 4096, .inl g)), (b3, .inl (cE, 4096, .inl md))] s.heap := hP
  have hl := lv_entry ([.ref o]) (n := 2) (Nat.le_of_ble_eq_true rfl)
  rw [lg_entry_eq]
  generalize (lg_sl ([.ref o]) ++ List.replicate (2 - (lg_sl ([.ref o])).length) Slot.unset).toArray = ls at hl ⊢
  have hl : lv_has ls 2 [(0, .ref o)] := hl
  refine lv_aload_n hx hb dY1_keep_0 rfl (lv_at hl 0 rfl) ?_
  refine lv_iconst (v := nI 0) hx hb dY1_keep_1 (by decide +kernel) ?_
  refine va_put (D := (dC, dI)) (ci := 1) (v := .int (nI 0)) (ty := .int) (C := RY1) (T := TY1) (N := 8) hx hb hts (by decide +kernel) tyY1 tyY1_ok nmY1 hown hK hP hD hS 0 rfl rfl 0 (by decide) (hts (.fieldLink RY1 36 "CoefTurnsModel" "thrown" "I") (by decide +kernel)) (fun _ h9 => h9) rfl (by decide +kernel) rfl rfl (Nat.le_of_ble_eq_true rfl) dY1_keep_2 (fun H locs hP hD hS => ?_)
  have hP : va_P (dC, dI) vwCm [(o, .inr (1, [.int (nI 0), .int (nI w), .int (nI h), .int (nI kw), .int (nI kh), .ref b1, .ref b2, .ref b3])), (b1, .inl (cC, 4096, .inl f)), (b2, .inl (cD, 4096, .inl g)), (b3, .inl (cE, 4096, .inl md))] H := hP
  have hD : va_D A [(o, .inr (1, [.int (nI 0), .int (nI w), .int (nI h), .int (nI kw), .int (nI kh), .ref b1, .ref b2, .ref b3])), (b1, .inl (cC, 4096, .inl f)), (b2, .inl (cD, 4096, .inl g)), (b3, .inl (cE, 4096, .inl md))] := hD
  refine lv_aload_n hx hb dY1_keep_5 rfl (lv_at hl 0 rfl) ?_
  refine lv_aload_n hx hb dY1_keep_6 rfl (lv_at hl 0 rfl) ?_
  refine va_get (D := (dC, dI)) (ci := 1) (v := .int (nI w)) (C := RY1) (T := TY1) (N := 8) hx hb hts (by decide +kernel) hown hK hP 0 rfl rfl 1 (by decide) (hts (.fieldLink RY1 23 "CoefTurnsModel" "w" "I") (by decide +kernel)) (fun _ h9 => h9) rfl dY1_keep_7 ?_
  refine va_put (D := (dC, dI)) (ci := 1) (v := .int (nI w)) (ty := .int) (C := RY1) (T := TY1) (N := 8) hx hb hts (by decide +kernel) tyY1 tyY1_ok nmY1 hown hK hP hD hS 0 rfl rfl 3 (by decide) (hts (.fieldLink RY1 30 "CoefTurnsModel" "keptW" "I") (by decide +kernel)) (fun _ h9 => h9) rfl (by decide +kernel) rfl rfl (Nat.le_of_ble_eq_true rfl) dY1_keep_10 (fun H locs hP hD hS => ?_)
  have hP : va_P (dC, dI) vwCm [(o, .inr (1, [.int (nI 0), .int (nI w), .int (nI h), .int (nI w), .int (nI kh), .ref b1, .ref b2, .ref b3])), (b1, .inl (cC, 4096, .inl f)), (b2, .inl (cD, 4096, .inl g)), (b3, .inl (cE, 4096, .inl md))] H := hP
  have hD : va_D A [(o, .inr (1, [.int (nI 0), .int (nI w), .int (nI h), .int (nI w), .int (nI kh), .ref b1, .ref b2, .ref b3])), (b1, .inl (cC, 4096, .inl f)), (b2, .inl (cD, 4096, .inl g)), (b3, .inl (cE, 4096, .inl md))] := hD
  refine lv_aload_n hx hb dY1_keep_13 rfl (lv_at hl 0 rfl) ?_
  refine lv_aload_n hx hb dY1_keep_14 rfl (lv_at hl 0 rfl) ?_
  refine va_get (D := (dC, dI)) (ci := 1) (v := .int (nI h)) (C := RY1) (T := TY1) (N := 8) hx hb hts (by decide +kernel) hown hK hP 0 rfl rfl 2 (by decide) (hts (.fieldLink RY1 27 "CoefTurnsModel" "h" "I") (by decide +kernel)) (fun _ h9 => h9) rfl dY1_keep_15 ?_
  refine va_put (D := (dC, dI)) (ci := 1) (v := .int (nI h)) (ty := .int) (C := RY1) (T := TY1) (N := 8) hx hb hts (by decide +kernel) tyY1 tyY1_ok nmY1 hown hK hP hD hS 0 rfl rfl 4 (by decide) (hts (.fieldLink RY1 33 "CoefTurnsModel" "keptH" "I") (by decide +kernel)) (fun _ h9 => h9) rfl (by decide +kernel) rfl rfl (Nat.le_of_ble_eq_true rfl) dY1_keep_18 (fun H locs hP hD hS => ?_)
  have hP : va_P (dC, dI) vwCm [(o, .inr (1, [.int (nI 0), .int (nI w), .int (nI h), .int (nI w), .int (nI h), .ref b1, .ref b2, .ref b3])), (b1, .inl (cC, 4096, .inl f)), (b2, .inl (cD, 4096, .inl g)), (b3, .inl (cE, 4096, .inl md))] H := hP
  have hD : va_D A [(o, .inr (1, [.int (nI 0), .int (nI w), .int (nI h), .int (nI w), .int (nI h), .ref b1, .ref b2, .ref b3])), (b1, .inl (cC, 4096, .inl f)), (b2, .inl (cD, 4096, .inl g)), (b3, .inl (cE, 4096, .inl md))] := hD
  refine lv_iconst (v := nI 0) hx hb dY1_keep_21 (by decide +kernel) ?_
  refine lv_istore_n (lv' := [(1, .int (nI 0)), (0, .ref o)]) hx hb dY1_keep_22 rfl hl (by decide) rfl (fun ls hl => ?_)
  have lp23 : ∀ (n23 : Nat) (k : Nat) (fc : Nat → Int32), k ≤ 4096 → 4096 < k + n23 → cf_cp k f fc → ∀ (H : Heap) (locs : List Loc), va_P (dC, dI) vwCm [(o, .inr (1, [.int (nI 0), .int (nI w), .int (nI h), .int (nI w), .int (nI h), .ref b1, .ref b2, .ref b3])), (b1, .inl (cC, 4096, .inl f)), (b2, .inl (cD, 4096, .inl fc)), (b3, .inl (cE, 4096, .inl md))] H → va_D A [(o, .inr (1, [.int (nI 0), .int (nI w), .int (nI h), .int (nI w), .int (nI h), .ref b1, .ref b2, .ref b3])), (b1, .inl (cC, 4096, .inl f)), (b2, .inl (cD, 4096, .inl fc)), (b3, .inl (cE, 4096, .inl md))] → va_S A s.heap H locs → ∀ (ls : Array Slot), lv_has ls 2 [(0, .ref o), (1, .int (nI k))] → W p l e (headSpec wsY1_keep ({ frames := 0, cells := 0, slots := 0, locals := 0 })).room s m ([.ref o] : List Value).toArray below meth c H locs 0 0 (MQ below (va_Qv (fun u : Nat → Int32 => cf_cp 4096 f u) (fun (u : Nat → Int32) (t : State) => va_P (dC, dI) vwCm [(o, .inr (1, [.int (nI 0), .int (nI w), .int (nI h), .int (nI w), .int (nI h), .ref b1, .ref b2, .ref b3])), (b1, .inl (cC, 4096, .inl f)), (b2, .inl (cD, 4096, .inl u)), (b3, .inl (cE, 4096, .inl md))] t.heap ∧ va_K (dC, dI) vwCm [(cC, .int), (cD, .int), (cE, .int)] t ∧ va_D A [(o, .inr (1, [.int (nI 0), .int (nI w), .int (nI h), .int (nI w), .int (nI h), .ref b1, .ref b2, .ref b3])), (b1, .inl (cC, 4096, .inl f)), (b2, .inl (cD, 4096, .inl u)), (b3, .inl (cE, 4096, .inl md))]) A) ([.ref o] : List Value).toArray s 0 0 A) (F0 m 23 ls []) := by
    intro n23
    induction n23 with
    | zero => intro k fc h1 h2; exact absurd h2 (by omega)
    | succ n23 ih23 =>
      intro k fc hk23 hn23 hI H locs hP hD hS ls hl
      refine lv_iload_n hx hb dY1_keep_23 rfl (lv_at hl 1 rfl) ?_
      refine lv_sipush (v := nI 4096) hx hb dY1_keep_24 (by decide +kernel) ?_
      refine lv_icmp_ge (tgt := 48) hx hb dY1_keep_27 (by decide) (fun c27 => ?_) (fun c27 => ?_)
      · skip
        have c27 := (nI_leI (a := 4096) (b := k) (by omega) (by omega)).mp c27
        have hP9 := hP.sub (ws' := [(o, .inr (1, [.int (nI 0), .int (nI w), .int (nI h), .int (nI w), .int (nI h), .ref b1, .ref b2, .ref b3])), (b1, .inl (cC, 4096, .inl f)), (b2, .inl (cD, 4096, .inl fc)), (b3, .inl (cE, 4096, .inl md))]) [0, 1, 2, 3] rfl
        have hD9 := hD.sub (ws' := [(o, .inr (1, [.int (nI 0), .int (nI w), .int (nI h), .int (nI w), .int (nI h), .ref b1, .ref b2, .ref b3])), (b1, .inl (cC, 4096, .inl f)), (b2, .inl (cD, 4096, .inl fc)), (b3, .inl (cE, 4096, .inl md))]) [0, 1, 2, 3] (by decide) rfl
        exact W.vret hx hb hr (fun t ht hW => ⟨⟨fc, rfl, (by have e : k = 4096 := (by omega); rw [e] at hI; exact hI), by rw [ht]; exact hP9, va_K.moved hW.alike hK, hD9⟩, hS.F ht⟩) hS.2.2 dY1_keep_48
      · skip
        have c27 := mt (nI_leI (a := 4096) (b := k) (by omega) (by omega)).mpr c27
        refine lv_aload_n hx hb dY1_keep_30 rfl (lv_at hl 0 rfl) ?_
        refine va_get (D := (dC, dI)) (ci := 1) (v := .ref b2) (C := RY1) (T := TY1) (N := 8) hx hb hts (by decide +kernel) hown hK hP 0 rfl rfl 6 (by decide) (hts (.fieldLink RY1 13 "CoefTurnsModel" "kept" "[I") (by decide +kernel)) (fun _ h9 => h9) rfl dY1_keep_31 ?_
        refine lv_iload_n hx hb dY1_keep_34 rfl (lv_at hl 1 rfl) ?_
        refine lv_aload_n hx hb dY1_keep_35 rfl (lv_at hl 0 rfl) ?_
        refine va_get (D := (dC, dI)) (ci := 1) (v := .ref b1) (C := RY1) (T := TY1) (N := 8) hx hb hts (by decide +kernel) hown hK hP 0 rfl rfl 5 (by decide) (hts (.fieldLink RY1 7 "CoefTurnsModel" "plane" "[I") (by decide +kernel)) (fun _ h9 => h9) rfl dY1_keep_36 ?_
        refine lv_iload_n hx hb dY1_keep_39 rfl (lv_at hl 1 rfl) ?_
        refine cf_iald (D := (dC, dI)) hx hb hK hP 1 0 rfl rfl (k := k) (by omega) (by decide) dY1_keep_40 ?_
        refine cf_iast (D := (dC, dI)) hx hb hK hP hD hS 2 1 rfl rfl (k := k) (by omega) (by decide) dY1_keep_41 (fun H locs hP hD hS => ?_)
        have hP : va_P (dC, dI) vwCm [(o, .inr (1, [.int (nI 0), .int (nI w), .int (nI h), .int (nI w), .int (nI h), .ref b1, .ref b2, .ref b3])), (b1, .inl (cC, 4096, .inl f)), (b2, .inl (cD, 4096, .inl (upd fc k (f k)))), (b3, .inl (cE, 4096, .inl md))] H := hP
        have hD : va_D A [(o, .inr (1, [.int (nI 0), .int (nI w), .int (nI h), .int (nI w), .int (nI h), .ref b1, .ref b2, .ref b3])), (b1, .inl (cC, 4096, .inl f)), (b2, .inl (cD, 4096, .inl (upd fc k (f k)))), (b3, .inl (cE, 4096, .inl md))] := hD
        refine lv_iinc (v := nI (k + 1)) (lv' := [(1, .int (nI (k + 1))), (0, .ref o)]) hx hb dY1_keep_42 hl (k := 1) rfl (by rw [← nI_add]; rfl) (by decide) rfl (fun ls hl => ?_)
        refine lv_goto (tgt := 23) hx hb dY1_keep_45 (by decide) ?_
        exact ih23 (k + 1) (upd fc k (f k)) (by omega) (by omega) (cf_cp_s hI) H locs hP hD hS ls (lv_sub hl [1, 0] rfl)
  exact lp23 (4096 + 1) 0 g (by omega) (by omega) cf_cp_0 H locs hP hD hS ls (lv_sub hl [1, 0] rfl)
set_option maxHeartbeats 4000000 in
set_option maxRecDepth 100000 in
/-- Y1_restore -/
theorem kY1_restore (l : Launch) (dC : Nat → ClassId) (dI : Nat → Nat → Nat) (sz : Nat) (o b1 b2 b3 : Nat) (cC cD cE : ClassId) (f g md : Nat → Int32) (th : Int32) (w h kw kh : Nat) : Met l yY1_restore wsY1_restore ({ frames := 0, cells := 0, slots := 0, locals := 0 }) (va_Pc [.ref o] (fun U => U.heap.size = sz ∧ va_P (dC, dI) vwCm [(o, .inr (1, [.int th, .int (nI w), .int (nI h), .int (nI kw), .int (nI kh), .ref b1, .ref b2, .ref b3])), (b1, .inl (cC, 4096, .inl f)), (b2, .inl (cD, 4096, .inl g)), (b3, .inl (cE, 4096, .inl md))] U.heap ∧ va_K (dC, dI) vwCm [(cC, .int), (cD, .int), (cE, .int)] U ∧ va_D (fun _ => True) [(o, .inr (1, [.int th, .int (nI w), .int (nI h), .int (nI kw), .int (nI kh), .ref b1, .ref b2, .ref b3])), (b1, .inl (cC, 4096, .inl f)), (b2, .inl (cD, 4096, .inl g)), (b3, .inl (cE, 4096, .inl md))])) (va_Qv (fun u : Nat → Int32 => cf_cp 4096 g u) (fun (u : Nat → Int32) (t : State) => va_P (dC, dI) vwCm [(o, .inr (1, [.int (nI 0), .int (nI kw), .int (nI kh), .int (nI kw), .int (nI kh), .ref b1, .ref b2, .ref b3])), (b1, .inl (cC, 4096, .inl u)), (b2, .inl (cD, 4096, .inl g)), (b3, .inl (cE, 4096, .inl md))] t.heap ∧ va_K (dC, dI) vwCm [(cC, .int), (cD, .int), (cE, .int)] t ∧ va_D (va_A [(o, .inr (1, [.int th, .int (nI w), .int (nI h), .int (nI kw), .int (nI kh), .ref b1, .ref b2, .ref b3])), (b1, .inl (cC, 4096, .inl f)), (b2, .inl (cD, 4096, .inl g)), (b3, .inl (cE, 4096, .inl md))] sz) [(o, .inr (1, [.int (nI 0), .int (nI kw), .int (nI kh), .int (nI kw), .int (nI kh), .ref b1, .ref b2, .ref b3])), (b1, .inl (cC, 4096, .inl u)), (b2, .inl (cD, 4096, .inl g)), (b3, .inl (cE, 4096, .inl md))]) (va_A [(o, .inr (1, [.int th, .int (nI w), .int (nI h), .int (nI kw), .int (nI kh), .ref b1, .ref b2, .ref b3])), (b1, .inl (cC, 4096, .inl f)), (b2, .inl (cD, 4096, .inl g)), (b3, .inl (cE, 4096, .inl md))] sz)) 0 0 (va_A [(o, .inr (1, [.int th, .int (nI w), .int (nI h), .int (nI kw), .int (nI kh), .ref b1, .ref b2, .ref b3])), (b1, .inl (cC, 4096, .inl f)), (b2, .inl (cD, 4096, .inl g)), (b3, .inl (cE, 4096, .inl md))] sz) := by
  refine Met.ofW (cc := cY1_restore) (maxL := 2) (ret := none) (by decide) rfl ?_
  intro p e s m args below meth c s₁ B hml hv
  obtain ⟨rfl, hsz, hP, hK, hD0⟩ := hv
  have hx := B.exec
  have hb := B.bytes
  have hr := B.returns
  have hts := atoms_spec (ws := wsY1_restore) B.pre
  have hown : s.vm.findClass RY1 = some m.cls := findClass_of_methodNamed B.named
  have hlocks := B.notSynchronized
  subst hsz
  have hD := hD0.self (sz := s.heap.size)
  generalize hAe : va_A [(o, .inr (1, [.int th, .int (nI w), .int (nI h), .int (nI kw), .int (nI kh), .ref b1, .ref b2, .ref b3])), (b1, .inl (cC, 4096, .inl f)), (b2, .inl (cD, 4096, .inl g)), (b3, .inl (cE, 4096, .inl md))] s.heap.size = A at hD ⊢
  have hA : ∀ q : Nat, s.heap.size ≤ q → A q := fun q h => by rw [← hAe]; exact Or.inr h
  have hS : va_S A s.heap s.heap [] := va_S.rf
  have hP : va_P (dC, dI) vwCm [(o, .inr (1, [.int th, .int (nI w), .int (nI h), .int (nI kw), .int (nI kh), .ref b1, .ref b2, .ref b3])), (b1, .inl (cC, 4096, .inl f)), (b2, .inl (cD, 4096, .inl g)), (b3, .inl (cE, 4096, .inl md))] s.heap := hP
  have hl := lv_entry ([.ref o]) (n := 2) (Nat.le_of_ble_eq_true rfl)
  rw [lg_entry_eq]
  generalize (lg_sl ([.ref o]) ++ List.replicate (2 - (lg_sl ([.ref o])).length) Slot.unset).toArray = ls at hl ⊢
  have hl : lv_has ls 2 [(0, .ref o)] := hl
  refine lv_aload_n hx hb dY1_restore_0 rfl (lv_at hl 0 rfl) ?_
  refine lv_iconst (v := nI 0) hx hb dY1_restore_1 (by decide +kernel) ?_
  refine va_put (D := (dC, dI)) (ci := 1) (v := .int (nI 0)) (ty := .int) (C := RY1) (T := TY1) (N := 8) hx hb hts (by decide +kernel) tyY1 tyY1_ok nmY1 hown hK hP hD hS 0 rfl rfl 0 (by decide) (hts (.fieldLink RY1 36 "CoefTurnsModel" "thrown" "I") (by decide +kernel)) (fun _ h9 => h9) rfl (by decide +kernel) rfl rfl (Nat.le_of_ble_eq_true rfl) dY1_restore_2 (fun H locs hP hD hS => ?_)
  have hP : va_P (dC, dI) vwCm [(o, .inr (1, [.int (nI 0), .int (nI w), .int (nI h), .int (nI kw), .int (nI kh), .ref b1, .ref b2, .ref b3])), (b1, .inl (cC, 4096, .inl f)), (b2, .inl (cD, 4096, .inl g)), (b3, .inl (cE, 4096, .inl md))] H := hP
  have hD : va_D A [(o, .inr (1, [.int (nI 0), .int (nI w), .int (nI h), .int (nI kw), .int (nI kh), .ref b1, .ref b2, .ref b3])), (b1, .inl (cC, 4096, .inl f)), (b2, .inl (cD, 4096, .inl g)), (b3, .inl (cE, 4096, .inl md))] := hD
  refine lv_aload_n hx hb dY1_restore_5 rfl (lv_at hl 0 rfl) ?_
  refine lv_aload_n hx hb dY1_restore_6 rfl (lv_at hl 0 rfl) ?_
  refine va_get (D := (dC, dI)) (ci := 1) (v := .int (nI kw)) (C := RY1) (T := TY1) (N := 8) hx hb hts (by decide +kernel) hown hK hP 0 rfl rfl 3 (by decide) (hts (.fieldLink RY1 30 "CoefTurnsModel" "keptW" "I") (by decide +kernel)) (fun _ h9 => h9) rfl dY1_restore_7 ?_
  refine va_put (D := (dC, dI)) (ci := 1) (v := .int (nI kw)) (ty := .int) (C := RY1) (T := TY1) (N := 8) hx hb hts (by decide +kernel) tyY1 tyY1_ok nmY1 hown hK hP hD hS 0 rfl rfl 1 (by decide) (hts (.fieldLink RY1 23 "CoefTurnsModel" "w" "I") (by decide +kernel)) (fun _ h9 => h9) rfl (by decide +kernel) rfl rfl (Nat.le_of_ble_eq_true rfl) dY1_restore_10 (fun H locs hP hD hS => ?_)
  have hP : va_P (dC, dI) vwCm [(o, .inr (1, [.int (nI 0), .int (nI kw), .int (nI h), .int (nI kw), .int (nI kh), .ref b1, .ref b2, .ref b3])), (b1, .inl (cC, 4096, .inl f)), (b2, .inl (cD, 4096, .inl g)), (b3, .inl (cE, 4096, .inl md))] H := hP
  have hD : va_D A [(o, .inr (1, [.int (nI 0), .int (nI kw), .int (nI h), .int (nI kw), .int (nI kh), .ref b1, .ref b2, .ref b3])), (b1, .inl (cC, 4096, .inl f)), (b2, .inl (cD, 4096, .inl g)), (b3, .inl (cE, 4096, .inl md))] := hD
  refine lv_aload_n hx hb dY1_restore_13 rfl (lv_at hl 0 rfl) ?_
  refine lv_aload_n hx hb dY1_restore_14 rfl (lv_at hl 0 rfl) ?_
  refine va_get (D := (dC, dI)) (ci := 1) (v := .int (nI kh)) (C := RY1) (T := TY1) (N := 8) hx hb hts (by decide +kernel) hown hK hP 0 rfl rfl 4 (by decide) (hts (.fieldLink RY1 33 "CoefTurnsModel" "keptH" "I") (by decide +kernel)) (fun _ h9 => h9) rfl dY1_restore_15 ?_
  refine va_put (D := (dC, dI)) (ci := 1) (v := .int (nI kh)) (ty := .int) (C := RY1) (T := TY1) (N := 8) hx hb hts (by decide +kernel) tyY1 tyY1_ok nmY1 hown hK hP hD hS 0 rfl rfl 2 (by decide) (hts (.fieldLink RY1 27 "CoefTurnsModel" "h" "I") (by decide +kernel)) (fun _ h9 => h9) rfl (by decide +kernel) rfl rfl (Nat.le_of_ble_eq_true rfl) dY1_restore_18 (fun H locs hP hD hS => ?_)
  have hP : va_P (dC, dI) vwCm [(o, .inr (1, [.int (nI 0), .int (nI kw), .int (nI kh), .int (nI kw), .int (nI kh), .ref b1, .ref b2, .ref b3])), (b1, .inl (cC, 4096, .inl f)), (b2, .inl (cD, 4096, .inl g)), (b3, .inl (cE, 4096, .inl md))] H := hP
  have hD : va_D A [(o, .inr (1, [.int (nI 0), .int (nI kw), .int (nI kh), .int (nI kw), .int (nI kh), .ref b1, .ref b2, .ref b3])), (b1, .inl (cC, 4096, .inl f)), (b2, .inl (cD, 4096, .inl g)), (b3, .inl (cE, 4096, .inl md))] := hD
  refine lv_iconst (v := nI 0) hx hb dY1_restore_21 (by decide +kernel) ?_
  refine lv_istore_n (lv' := [(1, .int (nI 0)), (0, .ref o)]) hx hb dY1_restore_22 rfl hl (by decide) rfl (fun ls hl => ?_)
  have lp23 : ∀ (n23 : Nat) (k : Nat) (fc : Nat → Int32), k ≤ 4096 → 4096 < k + n23 → cf_cp k g fc → ∀ (H : Heap) (locs : List Loc), va_P (dC, dI) vwCm [(o, .inr (1, [.int (nI 0), .int (nI kw), .int (nI kh), .int (nI kw), .int (nI kh), .ref b1, .ref b2, .ref b3])), (b1, .inl (cC, 4096, .inl fc)), (b2, .inl (cD, 4096, .inl g)), (b3, .inl (cE, 4096, .inl md))] H → va_D A [(o, .inr (1, [.int (nI 0), .int (nI kw), .int (nI kh), .int (nI kw), .int (nI kh), .ref b1, .ref b2, .ref b3])), (b1, .inl (cC, 4096, .inl fc)), (b2, .inl (cD, 4096, .inl g)), (b3, .inl (cE, 4096, .inl md))] → va_S A s.heap H locs → ∀ (ls : Array Slot), lv_has ls 2 [(0, .ref o), (1, .int (nI k))] → W p l e (headSpec wsY1_restore ({ frames := 0, cells := 0, slots := 0, locals := 0 })).room s m ([.ref o] : List Value).toArray below meth c H locs 0 0 (MQ below (va_Qv (fun u : Nat → Int32 => cf_cp 4096 g u) (fun (u : Nat → Int32) (t : State) => va_P (dC, dI) vwCm [(o, .inr (1, [.int (nI 0), .int (nI kw), .int (nI kh), .int (nI kw), .int (nI kh), .ref b1, .ref b2, .ref b3])), (b1, .inl (cC, 4096, .inl u)), (b2, .inl (cD, 4096, .inl g)), (b3, .inl (cE, 4096, .inl md))] t.heap ∧ va_K (dC, dI) vwCm [(cC, .int), (cD, .int), (cE, .int)] t ∧ va_D A [(o, .inr (1, [.int (nI 0), .int (nI kw), .int (nI kh), .int (nI kw), .int (nI kh), .ref b1, .ref b2, .ref b3])), (b1, .inl (cC, 4096, .inl u)), (b2, .inl (cD, 4096, .inl g)), (b3, .inl (cE, 4096, .inl md))]) A) ([.ref o] : List Value).toArray s 0 0 A) (F0 m 23 ls []) := by
    intro n23
    induction n23 with
    | zero => intro k fc h1 h2; exact absurd h2 (by omega)
    | succ n23 ih23 =>
      intro k fc hk23 hn23 hI H locs hP hD hS ls hl
      refine lv_iload_n hx hb dY1_restore_23 rfl (lv_at hl 1 rfl) ?_
      refine lv_sipush (v := nI 4096) hx hb dY1_restore_24 (by decide +kernel) ?_
      refine lv_icmp_ge (tgt := 48) hx hb dY1_restore_27 (by decide) (fun c27 => ?_) (fun c27 => ?_)
      · skip
        have c27 := (nI_leI (a := 4096) (b := k) (by omega) (by omega)).mp c27
        have hP9 := hP.sub (ws' := [(o, .inr (1, [.int (nI 0), .int (nI kw), .int (nI kh), .int (nI kw), .int (nI kh), .ref b1, .ref b2, .ref b3])), (b1, .inl (cC, 4096, .inl fc)), (b2, .inl (cD, 4096, .inl g)), (b3, .inl (cE, 4096, .inl md))]) [0, 1, 2, 3] rfl
        have hD9 := hD.sub (ws' := [(o, .inr (1, [.int (nI 0), .int (nI kw), .int (nI kh), .int (nI kw), .int (nI kh), .ref b1, .ref b2, .ref b3])), (b1, .inl (cC, 4096, .inl fc)), (b2, .inl (cD, 4096, .inl g)), (b3, .inl (cE, 4096, .inl md))]) [0, 1, 2, 3] (by decide) rfl
        exact W.vret hx hb hr (fun t ht hW => ⟨⟨fc, rfl, (by have e : k = 4096 := (by omega); rw [e] at hI; exact hI), by rw [ht]; exact hP9, va_K.moved hW.alike hK, hD9⟩, hS.F ht⟩) hS.2.2 dY1_restore_48
      · skip
        have c27 := mt (nI_leI (a := 4096) (b := k) (by omega) (by omega)).mpr c27
        refine lv_aload_n hx hb dY1_restore_30 rfl (lv_at hl 0 rfl) ?_
        refine va_get (D := (dC, dI)) (ci := 1) (v := .ref b1) (C := RY1) (T := TY1) (N := 8) hx hb hts (by decide +kernel) hown hK hP 0 rfl rfl 5 (by decide) (hts (.fieldLink RY1 7 "CoefTurnsModel" "plane" "[I") (by decide +kernel)) (fun _ h9 => h9) rfl dY1_restore_31 ?_
        refine lv_iload_n hx hb dY1_restore_34 rfl (lv_at hl 1 rfl) ?_
        refine lv_aload_n hx hb dY1_restore_35 rfl (lv_at hl 0 rfl) ?_
        refine va_get (D := (dC, dI)) (ci := 1) (v := .ref b2) (C := RY1) (T := TY1) (N := 8) hx hb hts (by decide +kernel) hown hK hP 0 rfl rfl 6 (by decide) (hts (.fieldLink RY1 13 "CoefTurnsModel" "kept" "[I") (by decide +kernel)) (fun _ h9 => h9) rfl dY1_restore_36 ?_
        refine lv_iload_n hx hb dY1_restore_39 rfl (lv_at hl 1 rfl) ?_
        refine cf_iald (D := (dC, dI)) hx hb hK hP 2 1 rfl rfl (k := k) (by omega) (by decide) dY1_restore_40 ?_
        refine cf_iast (D := (dC, dI)) hx hb hK hP hD hS 1 0 rfl rfl (k := k) (by omega) (by decide) dY1_restore_41 (fun H locs hP hD hS => ?_)
        have hP : va_P (dC, dI) vwCm [(o, .inr (1, [.int (nI 0), .int (nI kw), .int (nI kh), .int (nI kw), .int (nI kh), .ref b1, .ref b2, .ref b3])), (b1, .inl (cC, 4096, .inl (upd fc k (g k)))), (b2, .inl (cD, 4096, .inl g)), (b3, .inl (cE, 4096, .inl md))] H := hP
        have hD : va_D A [(o, .inr (1, [.int (nI 0), .int (nI kw), .int (nI kh), .int (nI kw), .int (nI kh), .ref b1, .ref b2, .ref b3])), (b1, .inl (cC, 4096, .inl (upd fc k (g k)))), (b2, .inl (cD, 4096, .inl g)), (b3, .inl (cE, 4096, .inl md))] := hD
        refine lv_iinc (v := nI (k + 1)) (lv' := [(1, .int (nI (k + 1))), (0, .ref o)]) hx hb dY1_restore_42 hl (k := 1) rfl (by rw [← nI_add]; rfl) (by decide) rfl (fun ls hl => ?_)
        refine lv_goto (tgt := 23) hx hb dY1_restore_45 (by decide) ?_
        exact ih23 (k + 1) (upd fc k (g k)) (by omega) (by omega) (cf_cp_s hI) H locs hP hD hS ls (lv_sub hl [1, 0] rfl)
  exact lp23 (4096 + 1) 0 f (by omega) (by omega) cf_cp_0 H locs hP hD hS ls (lv_sub hl [1, 0] rfl)
set_option maxHeartbeats 4000000 in
set_option maxRecDepth 100000 in
/-- Y1_put -/
theorem kY1_put (l : Launch) (dC : Nat → ClassId) (dI : Nat → Nat → Nat) (sz : Nat) (o b1 b2 b3 : Nat) (cC cD cE : ClassId) (f g md : Nat → Int32) (th : Int32) (w h kw kh : Nat) (bx bz q v : Int32) (hw : w ≤ 8) (hh : h ≤ 8) : Met l yY1_put wsY1_put ({ frames := 1, cells := 0, slots := 0, locals := 22 }) (va_Pc [.ref o, .int bx, .int bz, .int q, .int v] (fun U => U.heap.size = sz ∧ va_P (dC, dI) vwCm [(o, .inr (1, [.int th, .int (nI w), .int (nI h), .int (nI kw), .int (nI kh), .ref b1, .ref b2, .ref b3])), (b1, .inl (cC, 4096, .inl f)), (b2, .inl (cD, 4096, .inl g)), (b3, .inl (cE, 4096, .inl md))] U.heap ∧ va_K (dC, dI) vwCm [(cC, .int), (cD, .int), (cE, .int)] U ∧ va_D (fun _ => True) [(o, .inr (1, [.int th, .int (nI w), .int (nI h), .int (nI kw), .int (nI kh), .ref b1, .ref b2, .ref b3])), (b1, .inl (cC, 4096, .inl f)), (b2, .inl (cD, 4096, .inl g)), (b3, .inl (cE, 4096, .inl md))])) (va_Qv (fun u : (Nat → Int32) × Int32 => u.2 = cf_pk w h bx bz q v ∧ cf_Ag w h (cf_V u.1) (cf_pu w h bx bz q v (cf_V f))) (fun (u : (Nat → Int32) × Int32) (t : State) => va_P (dC, dI) vwCm [(o, .inr (1, [.int u.2, .int (nI w), .int (nI h), .int (nI kw), .int (nI kh), .ref b1, .ref b2, .ref b3])), (b1, .inl (cC, 4096, .inl u.1)), (b2, .inl (cD, 4096, .inl g)), (b3, .inl (cE, 4096, .inl md))] t.heap ∧ va_K (dC, dI) vwCm [(cC, .int), (cD, .int), (cE, .int)] t ∧ va_D (va_A [(o, .inr (1, [.int th, .int (nI w), .int (nI h), .int (nI kw), .int (nI kh), .ref b1, .ref b2, .ref b3])), (b1, .inl (cC, 4096, .inl f)), (b2, .inl (cD, 4096, .inl g)), (b3, .inl (cE, 4096, .inl md))] sz) [(o, .inr (1, [.int u.2, .int (nI w), .int (nI h), .int (nI kw), .int (nI kh), .ref b1, .ref b2, .ref b3])), (b1, .inl (cC, 4096, .inl u.1)), (b2, .inl (cD, 4096, .inl g)), (b3, .inl (cE, 4096, .inl md))]) (va_A [(o, .inr (1, [.int th, .int (nI w), .int (nI h), .int (nI kw), .int (nI kh), .ref b1, .ref b2, .ref b3])), (b1, .inl (cC, 4096, .inl f)), (b2, .inl (cD, 4096, .inl g)), (b3, .inl (cE, 4096, .inl md))] sz)) 0 0 (va_A [(o, .inr (1, [.int th, .int (nI w), .int (nI h), .int (nI kw), .int (nI kh), .ref b1, .ref b2, .ref b3])), (b1, .inl (cC, 4096, .inl f)), (b2, .inl (cD, 4096, .inl g)), (b3, .inl (cE, 4096, .inl md))] sz) := by
  refine Met.ofW (cc := cY1_put) (maxL := 5) (ret := none) (by decide) rfl ?_
  intro p e s m args below meth c s₁ B hml hv
  obtain ⟨rfl, hsz, hP, hK, hD0⟩ := hv
  have hx := B.exec
  have hb := B.bytes
  have hr := B.returns
  have hts := atoms_spec (ws := wsY1_put) B.pre
  have hown : s.vm.findClass RY1 = some m.cls := findClass_of_methodNamed B.named
  have hlocks := B.notSynchronized
  subst hsz
  have hD := hD0.self (sz := s.heap.size)
  generalize hAe : va_A [(o, .inr (1, [.int th, .int (nI w), .int (nI h), .int (nI kw), .int (nI kh), .ref b1, .ref b2, .ref b3])), (b1, .inl (cC, 4096, .inl f)), (b2, .inl (cD, 4096, .inl g)), (b3, .inl (cE, 4096, .inl md))] s.heap.size = A at hD ⊢
  have hA : ∀ q : Nat, s.heap.size ≤ q → A q := fun q h => by rw [← hAe]; exact Or.inr h
  have hS : va_S A s.heap s.heap [] := va_S.rf
  have hP : va_P (dC, dI) vwCm [(o, .inr (1, [.int th, .int (nI w), .int (nI h), .int (nI kw), .int (nI kh), .ref b1, .ref b2, .ref b3])), (b1, .inl (cC, 4096, .inl f)), (b2, .inl (cD, 4096, .inl g)), (b3, .inl (cE, 4096, .inl md))] s.heap := hP
  have hl := lv_entry ([.ref o, .int bx, .int bz, .int q, .int v]) (n := 5) (Nat.le_of_ble_eq_true rfl)
  rw [lg_entry_eq]
  generalize (lg_sl ([.ref o, .int bx, .int bz, .int q, .int v]) ++ List.replicate (5 - (lg_sl ([.ref o, .int bx, .int bz, .int q, .int v])).length) Slot.unset).toArray = ls at hl ⊢
  have hl : lv_has ls 5 [(0, .ref o), (1, .int bx), (2, .int bz), (3, .int q), (4, .int v)] := hl
  refine lv_aload_n hx hb dY1_put_0 rfl (lv_at hl 0 rfl) ?_
  refine lv_aload_n hx hb dY1_put_1 rfl (lv_at hl 0 rfl) ?_
  refine lv_iload_n hx hb dY1_put_2 rfl (lv_at hl 1 rfl) ?_
  refine lv_iload_n hx hb dY1_put_3 rfl (lv_at hl 2 rfl) ?_
  have hPc := hP.sub (ws' := [(o, .inr (1, [.int th, .int (nI w), .int (nI h), .int (nI kw), .int (nI kh), .ref b1, .ref b2, .ref b3])), (b1, .inl (cC, 4096, .inl f)), (b2, .inl (cD, 4096, .inl g)), (b3, .inl (cE, 4096, .inl md))]) [0, 1, 2, 3] rfl
  have hKc := hK.sub (tys' := [(cC, .int), (cD, .int), (cE, .int)]) [0, 1, 2] rfl
  refine vp_callSi (W.runV (As := [.int bx, .int bz]) (rest := [.ref o]) ⟨hx, hb, hml, hown, hts⟩ (kY1_isBlock l dC dI o b1 b2 b3 cC cD cE f g md th w h kw kh bx bz) (cwV 2 hts gY1_put_Y1_isBlock rfl rfl rfl (by decide +kernel) ⟨Nat.le_of_ble_eq_true rfl, Nat.le_of_ble_eq_true rfl⟩) ⟨fun a U g mk q => by obtain ⟨q0, qP, qK⟩ := q; exact ⟨q0, qP, va_K.moved (u := U) (U := U.calling g mk a) (Vm.Alike.refl U.vm) qK⟩, va_recv hKc hPc (ci := 1) (q0 := 0) rfl rfl, fun U hU hW => ⟨rfl, by rw [hU]; exact hPc, va_K.moved hW.alike hKc⟩⟩ rfl rfl hl.1 rfl (lv_room (Nat.le_of_ble_eq_true rfl)) dY1_put_4 ⟨Nat.le_of_ble_eq_true rfl, Nat.le_of_ble_eq_true rfl⟩) (fun r4 w4 => ?_)
  subst w4
  refine lv_if_eq (tgt := 17) hx hb dY1_put_7 (by decide) (fun c7 => ?_) (fun c7 => ?_)
  · skip
    refine lv_iconst (v := nI 1) hx hb dY1_put_17 (by decide +kernel) ?_
    refine lv_goto (tgt := 42) hx hb dY1_put_18 (by decide) ?_
    refine va_put (D := (dC, dI)) (ci := 1) (v := .int (nI 1)) (ty := .int) (C := RY1) (T := TY1) (N := 8) hx hb hts (by decide +kernel) tyY1 tyY1_ok nmY1 hown hK hP hD hS 0 rfl rfl 0 (by decide) (hts (.fieldLink RY1 36 "CoefTurnsModel" "thrown" "I") (by decide +kernel)) (fun _ h9 => h9) rfl (by decide +kernel) rfl rfl (Nat.le_of_ble_eq_true rfl) dY1_put_42 (fun H locs hP hD hS => ?_)
    have hP : va_P (dC, dI) vwCm [(o, .inr (1, [.int (nI 1), .int (nI w), .int (nI h), .int (nI kw), .int (nI kh), .ref b1, .ref b2, .ref b3])), (b1, .inl (cC, 4096, .inl f)), (b2, .inl (cD, 4096, .inl g)), (b3, .inl (cE, 4096, .inl md))] H := hP
    have hD : va_D A [(o, .inr (1, [.int (nI 1), .int (nI w), .int (nI h), .int (nI kw), .int (nI kh), .ref b1, .ref b2, .ref b3])), (b1, .inl (cC, 4096, .inl f)), (b2, .inl (cD, 4096, .inl g)), (b3, .inl (cE, 4096, .inl md))] := hD
    refine lv_aload_n hx hb dY1_put_45 rfl (lv_at hl 0 rfl) ?_
    refine va_get (D := (dC, dI)) (ci := 1) (v := .int (nI 1)) (C := RY1) (T := TY1) (N := 8) hx hb hts (by decide +kernel) hown hK hP 0 rfl rfl 0 (by decide) (hts (.fieldLink RY1 36 "CoefTurnsModel" "thrown" "I") (by decide +kernel)) (fun _ h9 => h9) rfl dY1_put_46 ?_
    refine lv_if_ne (tgt := 66) hx hb dY1_put_49 (by decide) (fun c49 => ?_) (fun c49 => ?_)
    · skip
      have c49 := mt (nI_eq (a := 1) (b := 0) (by omega) (by omega)).mpr c49
      have hP9 := hP.sub (ws' := [(o, .inr (1, [.int (nI 1), .int (nI w), .int (nI h), .int (nI kw), .int (nI kh), .ref b1, .ref b2, .ref b3])), (b1, .inl (cC, 4096, .inl f)), (b2, .inl (cD, 4096, .inl g)), (b3, .inl (cE, 4096, .inl md))]) [0, 1, 2, 3] rfl
      have hD9 := hD.sub (ws' := [(o, .inr (1, [.int (nI 1), .int (nI w), .int (nI h), .int (nI kw), .int (nI kh), .ref b1, .ref b2, .ref b3])), (b1, .inl (cC, 4096, .inl f)), (b2, .inl (cD, 4096, .inl g)), (b3, .inl (cE, 4096, .inl md))]) [0, 1, 2, 3] (by decide) rfl
      exact W.vret hx hb hr (fun t ht hW => ⟨⟨(f, nI 1), rfl, (by have e : cf_pk w h bx bz q v = nI 1 := (by unfold cf_pk; (first | rw [if_pos c7] | rw [if_neg c7] | rw [if_neg (cf_nlt c7)] | rw [if_pos (cf_nle c7)] | skip); (first | rw [if_pos c49] | rw [if_neg c49] | rw [if_neg (cf_nlt c49)] | rw [if_pos (cf_nle c49)] | skip)); refine ⟨e.symm, ?_⟩; unfold cf_pu; rw [e, if_neg (nI_ne0 (by omega) (by omega))]; exact cf_Ag.rf), by rw [ht]; exact hP9, va_K.moved hW.alike hK, hD9⟩, hS.F ht⟩) hS.2.2 dY1_put_66
    · skip
      exact absurd c49 (by decide +kernel)
  · skip
    obtain ⟨x, z, hx_, hz_, ebx, ebz⟩ := cf_ib_1 hw hh c7
    refine lv_iload_n hx hb dY1_put_10 rfl (lv_at hl 3 rfl) ?_
    refine vp_callSi (W.runS (As := [.int q]) (rest := [.ref o]) ⟨hx, hb, hml, hown, hts⟩ (kY1_isPlace l q) (va_cwS 1 hts gY1_put_Y1_isPlace rfl rfl rfl (by decide +kernel) ⟨Nat.le_of_ble_eq_true rfl, Nat.le_of_ble_eq_true rfl⟩) ⟨fun a U g mk q => q, fun U hU hW => ⟨rfl, trivial⟩⟩ rfl rfl hl.1 rfl (lv_room (Nat.le_of_ble_eq_true rfl)) dY1_put_11 ⟨Nat.le_of_ble_eq_true rfl, Nat.le_of_ble_eq_true rfl⟩) (fun r11 w11 => ?_)
    subst w11
    refine lv_if_ne (tgt := 21) hx hb dY1_put_14 (by decide) (fun c14 => ?_) (fun c14 => ?_)
    · skip
      obtain ⟨j, hj, eq⟩ := cf_ip_1 c14
      refine lv_iload hx hb dY1_put_21 (lv_at hl 4 rfl) ?_
      refine lv_sipush (v := (-32767)) hx hb dY1_put_23 (by decide +kernel) ?_
      refine lv_icmp_lt (tgt := 37) hx hb dY1_put_26 (by decide) (fun c26 => ?_) (fun c26 => ?_)
      · skip
        refine lv_iconst (v := nI 2) hx hb dY1_put_37 (by decide +kernel) ?_
        refine lv_goto (tgt := 42) hx hb dY1_put_38 (by decide) ?_
        refine va_put (D := (dC, dI)) (ci := 1) (v := .int (nI 2)) (ty := .int) (C := RY1) (T := TY1) (N := 8) hx hb hts (by decide +kernel) tyY1 tyY1_ok nmY1 hown hK hP hD hS 0 rfl rfl 0 (by decide) (hts (.fieldLink RY1 36 "CoefTurnsModel" "thrown" "I") (by decide +kernel)) (fun _ h9 => h9) rfl (by decide +kernel) rfl rfl (Nat.le_of_ble_eq_true rfl) dY1_put_42 (fun H locs hP hD hS => ?_)
        have hP : va_P (dC, dI) vwCm [(o, .inr (1, [.int (nI 2), .int (nI w), .int (nI h), .int (nI kw), .int (nI kh), .ref b1, .ref b2, .ref b3])), (b1, .inl (cC, 4096, .inl f)), (b2, .inl (cD, 4096, .inl g)), (b3, .inl (cE, 4096, .inl md))] H := hP
        have hD : va_D A [(o, .inr (1, [.int (nI 2), .int (nI w), .int (nI h), .int (nI kw), .int (nI kh), .ref b1, .ref b2, .ref b3])), (b1, .inl (cC, 4096, .inl f)), (b2, .inl (cD, 4096, .inl g)), (b3, .inl (cE, 4096, .inl md))] := hD
        refine lv_aload_n hx hb dY1_put_45 rfl (lv_at hl 0 rfl) ?_
        refine va_get (D := (dC, dI)) (ci := 1) (v := .int (nI 2)) (C := RY1) (T := TY1) (N := 8) hx hb hts (by decide +kernel) hown hK hP 0 rfl rfl 0 (by decide) (hts (.fieldLink RY1 36 "CoefTurnsModel" "thrown" "I") (by decide +kernel)) (fun _ h9 => h9) rfl dY1_put_46 ?_
        refine lv_if_ne (tgt := 66) hx hb dY1_put_49 (by decide) (fun c49 => ?_) (fun c49 => ?_)
        · skip
          have c49 := mt (nI_eq (a := 2) (b := 0) (by omega) (by omega)).mpr c49
          have hP9 := hP.sub (ws' := [(o, .inr (1, [.int (nI 2), .int (nI w), .int (nI h), .int (nI kw), .int (nI kh), .ref b1, .ref b2, .ref b3])), (b1, .inl (cC, 4096, .inl f)), (b2, .inl (cD, 4096, .inl g)), (b3, .inl (cE, 4096, .inl md))]) [0, 1, 2, 3] rfl
          have hD9 := hD.sub (ws' := [(o, .inr (1, [.int (nI 2), .int (nI w), .int (nI h), .int (nI kw), .int (nI kh), .ref b1, .ref b2, .ref b3])), (b1, .inl (cC, 4096, .inl f)), (b2, .inl (cD, 4096, .inl g)), (b3, .inl (cE, 4096, .inl md))]) [0, 1, 2, 3] (by decide) rfl
          exact W.vret hx hb hr (fun t ht hW => ⟨⟨(f, nI 2), rfl, (by have e : cf_pk w h bx bz q v = nI 2 := (by unfold cf_pk; (first | rw [if_pos c7] | rw [if_neg c7] | rw [if_neg (cf_nlt c7)] | rw [if_pos (cf_nle c7)] | skip); (first | rw [if_pos c14] | rw [if_neg c14] | rw [if_neg (cf_nlt c14)] | rw [if_pos (cf_nle c14)] | skip); (first | rw [if_pos c26] | rw [if_neg c26] | rw [if_neg (cf_nlt c26)] | rw [if_pos (cf_nle c26)] | skip); (first | rw [if_pos c49] | rw [if_neg c49] | rw [if_neg (cf_nlt c49)] | rw [if_pos (cf_nle c49)] | skip)); refine ⟨e.symm, ?_⟩; unfold cf_pu; rw [e, if_neg (nI_ne0 (by omega) (by omega))]; exact cf_Ag.rf), by rw [ht]; exact hP9, va_K.moved hW.alike hK, hD9⟩, hS.F ht⟩) hS.2.2 dY1_put_66
        · skip
          exact absurd c49 (by decide +kernel)
      · skip
        refine lv_iload hx hb dY1_put_29 (lv_at hl 4 rfl) ?_
        refine lv_sipush (v := nI 32767) hx hb dY1_put_31 (by decide +kernel) ?_
        refine lv_icmp_le (tgt := 41) hx hb dY1_put_34 (by decide) (fun c34 => ?_) (fun c34 => ?_)
        · skip
          refine lv_iconst (v := nI 0) hx hb dY1_put_41 (by decide +kernel) ?_
          refine va_put (D := (dC, dI)) (ci := 1) (v := .int (nI 0)) (ty := .int) (C := RY1) (T := TY1) (N := 8) hx hb hts (by decide +kernel) tyY1 tyY1_ok nmY1 hown hK hP hD hS 0 rfl rfl 0 (by decide) (hts (.fieldLink RY1 36 "CoefTurnsModel" "thrown" "I") (by decide +kernel)) (fun _ h9 => h9) rfl (by decide +kernel) rfl rfl (Nat.le_of_ble_eq_true rfl) dY1_put_42 (fun H locs hP hD hS => ?_)
          have hP : va_P (dC, dI) vwCm [(o, .inr (1, [.int (nI 0), .int (nI w), .int (nI h), .int (nI kw), .int (nI kh), .ref b1, .ref b2, .ref b3])), (b1, .inl (cC, 4096, .inl f)), (b2, .inl (cD, 4096, .inl g)), (b3, .inl (cE, 4096, .inl md))] H := hP
          have hD : va_D A [(o, .inr (1, [.int (nI 0), .int (nI w), .int (nI h), .int (nI kw), .int (nI kh), .ref b1, .ref b2, .ref b3])), (b1, .inl (cC, 4096, .inl f)), (b2, .inl (cD, 4096, .inl g)), (b3, .inl (cE, 4096, .inl md))] := hD
          refine lv_aload_n hx hb dY1_put_45 rfl (lv_at hl 0 rfl) ?_
          refine va_get (D := (dC, dI)) (ci := 1) (v := .int (nI 0)) (C := RY1) (T := TY1) (N := 8) hx hb hts (by decide +kernel) hown hK hP 0 rfl rfl 0 (by decide) (hts (.fieldLink RY1 36 "CoefTurnsModel" "thrown" "I") (by decide +kernel)) (fun _ h9 => h9) rfl dY1_put_46 ?_
          refine lv_if_ne (tgt := 66) hx hb dY1_put_49 (by decide) (fun c49 => ?_) (fun c49 => ?_)
          · skip
            exact absurd c49 (by decide +kernel)
          · skip
            have c49 := (nI_eq (a := 0) (b := 0) (by omega) (by omega)).mp c49
            refine lv_aload_n hx hb dY1_put_52 rfl (lv_at hl 0 rfl) ?_
            refine va_get (D := (dC, dI)) (ci := 1) (v := .ref b1) (C := RY1) (T := TY1) (N := 8) hx hb hts (by decide +kernel) hown hK hP 0 rfl rfl 5 (by decide) (hts (.fieldLink RY1 7 "CoefTurnsModel" "plane" "[I") (by decide +kernel)) (fun _ h9 => h9) rfl dY1_put_53 ?_
            refine lv_iload_n hx hb dY1_put_56 rfl (lv_at hl 1 rfl) ?_
            refine cf_top ebx ?_
            refine lv_iload_n hx hb dY1_put_57 rfl (lv_at hl 2 rfl) ?_
            refine cf_top ebz ?_
            refine vp_callSi (W.runS (As := [.int (nI x), .int (nI z)]) (rest := [.ref b1]) ⟨hx, hb, hml, hown, hts⟩ (kY1_block l x z) (va_cwS 2 hts gY1_put_Y1_block rfl rfl rfl (by decide +kernel) ⟨Nat.le_of_ble_eq_true rfl, Nat.le_of_ble_eq_true rfl⟩) ⟨fun a U g mk q => q, fun U hU hW => ⟨rfl, trivial⟩⟩ rfl rfl hl.1 rfl (lv_room (Nat.le_of_ble_eq_true rfl)) dY1_put_58 ⟨Nat.le_of_ble_eq_true rfl, Nat.le_of_ble_eq_true rfl⟩) (fun r58 w58 => ?_)
            subst w58
            refine lv_iload_n hx hb dY1_put_61 rfl (lv_at hl 3 rfl) ?_
            refine cf_top eq ?_
            refine lv_iadd hx hb dY1_put_62 ?_
            refine cf_top (nI_add _ _) ?_
            refine lv_iload hx hb dY1_put_63 (lv_at hl 4 rfl) ?_
            refine cf_iast (D := (dC, dI)) hx hb hK hP hD hS 1 0 rfl rfl (k := 64 * (8 * z + x) + j) (by omega) (by decide) dY1_put_65 (fun H locs hP hD hS => ?_)
            have hP : va_P (dC, dI) vwCm [(o, .inr (1, [.int (nI 0), .int (nI w), .int (nI h), .int (nI kw), .int (nI kh), .ref b1, .ref b2, .ref b3])), (b1, .inl (cC, 4096, .inl (upd f (64 * (8 * z + x) + j) v))), (b2, .inl (cD, 4096, .inl g)), (b3, .inl (cE, 4096, .inl md))] H := hP
            have hD : va_D A [(o, .inr (1, [.int (nI 0), .int (nI w), .int (nI h), .int (nI kw), .int (nI kh), .ref b1, .ref b2, .ref b3])), (b1, .inl (cC, 4096, .inl (upd f (64 * (8 * z + x) + j) v))), (b2, .inl (cD, 4096, .inl g)), (b3, .inl (cE, 4096, .inl md))] := hD
            have hP9 := hP.sub (ws' := [(o, .inr (1, [.int (nI 0), .int (nI w), .int (nI h), .int (nI kw), .int (nI kh), .ref b1, .ref b2, .ref b3])), (b1, .inl (cC, 4096, .inl (upd f (64 * (8 * z + x) + j) v))), (b2, .inl (cD, 4096, .inl g)), (b3, .inl (cE, 4096, .inl md))]) [0, 1, 2, 3] rfl
            have hD9 := hD.sub (ws' := [(o, .inr (1, [.int (nI 0), .int (nI w), .int (nI h), .int (nI kw), .int (nI kh), .ref b1, .ref b2, .ref b3])), (b1, .inl (cC, 4096, .inl (upd f (64 * (8 * z + x) + j) v))), (b2, .inl (cD, 4096, .inl g)), (b3, .inl (cE, 4096, .inl md))]) [0, 1, 2, 3] (by decide) rfl
            exact W.vret hx hb hr (fun t ht hW => ⟨⟨(_, nI 0), rfl, (by have e : cf_pk w h bx bz q v = nI 0 := (by unfold cf_pk; (first | rw [if_pos c7] | rw [if_neg c7] | rw [if_neg (cf_nlt c7)] | rw [if_pos (cf_nle c7)] | skip); (first | rw [if_pos c14] | rw [if_neg c14] | rw [if_neg (cf_nlt c14)] | rw [if_pos (cf_nle c14)] | skip); (first | rw [if_pos c26] | rw [if_neg c26] | rw [if_neg (cf_nlt c26)] | rw [if_pos (cf_nle c26)] | skip); (first | rw [if_pos c34] | rw [if_neg c34] | rw [if_neg (cf_nlt c34)] | rw [if_pos (cf_nle c34)] | skip); (first | rw [if_pos c49] | rw [if_neg c49] | rw [if_neg (cf_nlt c49)] | rw [if_pos (cf_nle c49)] | skip)); refine ⟨e.symm, ?_⟩; unfold cf_pu; rw [if_pos (e.trans nI_0), ebx, ebz, eq, nI_clamp (by omega), nI_clamp (by omega), nI_clamp (by omega)]; exact cf_p1_upd hw hx_ hj), by rw [ht]; exact hP9, va_K.moved hW.alike hK, hD9⟩, hS.F ht⟩) hS.2.2 dY1_put_66
        · skip
          refine lv_iconst (v := nI 2) hx hb dY1_put_37 (by decide +kernel) ?_
          refine lv_goto (tgt := 42) hx hb dY1_put_38 (by decide) ?_
          refine va_put (D := (dC, dI)) (ci := 1) (v := .int (nI 2)) (ty := .int) (C := RY1) (T := TY1) (N := 8) hx hb hts (by decide +kernel) tyY1 tyY1_ok nmY1 hown hK hP hD hS 0 rfl rfl 0 (by decide) (hts (.fieldLink RY1 36 "CoefTurnsModel" "thrown" "I") (by decide +kernel)) (fun _ h9 => h9) rfl (by decide +kernel) rfl rfl (Nat.le_of_ble_eq_true rfl) dY1_put_42 (fun H locs hP hD hS => ?_)
          have hP : va_P (dC, dI) vwCm [(o, .inr (1, [.int (nI 2), .int (nI w), .int (nI h), .int (nI kw), .int (nI kh), .ref b1, .ref b2, .ref b3])), (b1, .inl (cC, 4096, .inl f)), (b2, .inl (cD, 4096, .inl g)), (b3, .inl (cE, 4096, .inl md))] H := hP
          have hD : va_D A [(o, .inr (1, [.int (nI 2), .int (nI w), .int (nI h), .int (nI kw), .int (nI kh), .ref b1, .ref b2, .ref b3])), (b1, .inl (cC, 4096, .inl f)), (b2, .inl (cD, 4096, .inl g)), (b3, .inl (cE, 4096, .inl md))] := hD
          refine lv_aload_n hx hb dY1_put_45 rfl (lv_at hl 0 rfl) ?_
          refine va_get (D := (dC, dI)) (ci := 1) (v := .int (nI 2)) (C := RY1) (T := TY1) (N := 8) hx hb hts (by decide +kernel) hown hK hP 0 rfl rfl 0 (by decide) (hts (.fieldLink RY1 36 "CoefTurnsModel" "thrown" "I") (by decide +kernel)) (fun _ h9 => h9) rfl dY1_put_46 ?_
          refine lv_if_ne (tgt := 66) hx hb dY1_put_49 (by decide) (fun c49 => ?_) (fun c49 => ?_)
          · skip
            have c49 := mt (nI_eq (a := 2) (b := 0) (by omega) (by omega)).mpr c49
            have hP9 := hP.sub (ws' := [(o, .inr (1, [.int (nI 2), .int (nI w), .int (nI h), .int (nI kw), .int (nI kh), .ref b1, .ref b2, .ref b3])), (b1, .inl (cC, 4096, .inl f)), (b2, .inl (cD, 4096, .inl g)), (b3, .inl (cE, 4096, .inl md))]) [0, 1, 2, 3] rfl
            have hD9 := hD.sub (ws' := [(o, .inr (1, [.int (nI 2), .int (nI w), .int (nI h), .int (nI kw), .int (nI kh), .ref b1, .ref b2, .ref b3])), (b1, .inl (cC, 4096, .inl f)), (b2, .inl (cD, 4096, .inl g)), (b3, .inl (cE, 4096, .inl md))]) [0, 1, 2, 3] (by decide) rfl
            exact W.vret hx hb hr (fun t ht hW => ⟨⟨(f, nI 2), rfl, (by have e : cf_pk w h bx bz q v = nI 2 := (by unfold cf_pk; (first | rw [if_pos c7] | rw [if_neg c7] | rw [if_neg (cf_nlt c7)] | rw [if_pos (cf_nle c7)] | skip); (first | rw [if_pos c14] | rw [if_neg c14] | rw [if_neg (cf_nlt c14)] | rw [if_pos (cf_nle c14)] | skip); (first | rw [if_pos c26] | rw [if_neg c26] | rw [if_neg (cf_nlt c26)] | rw [if_pos (cf_nle c26)] | skip); (first | rw [if_pos c34] | rw [if_neg c34] | rw [if_neg (cf_nlt c34)] | rw [if_pos (cf_nle c34)] | skip); (first | rw [if_pos c49] | rw [if_neg c49] | rw [if_neg (cf_nlt c49)] | rw [if_pos (cf_nle c49)] | skip)); refine ⟨e.symm, ?_⟩; unfold cf_pu; rw [e, if_neg (nI_ne0 (by omega) (by omega))]; exact cf_Ag.rf), by rw [ht]; exact hP9, va_K.moved hW.alike hK, hD9⟩, hS.F ht⟩) hS.2.2 dY1_put_66
          · skip
            exact absurd c49 (by decide +kernel)
    · skip
      refine lv_iconst (v := nI 1) hx hb dY1_put_17 (by decide +kernel) ?_
      refine lv_goto (tgt := 42) hx hb dY1_put_18 (by decide) ?_
      refine va_put (D := (dC, dI)) (ci := 1) (v := .int (nI 1)) (ty := .int) (C := RY1) (T := TY1) (N := 8) hx hb hts (by decide +kernel) tyY1 tyY1_ok nmY1 hown hK hP hD hS 0 rfl rfl 0 (by decide) (hts (.fieldLink RY1 36 "CoefTurnsModel" "thrown" "I") (by decide +kernel)) (fun _ h9 => h9) rfl (by decide +kernel) rfl rfl (Nat.le_of_ble_eq_true rfl) dY1_put_42 (fun H locs hP hD hS => ?_)
      have hP : va_P (dC, dI) vwCm [(o, .inr (1, [.int (nI 1), .int (nI w), .int (nI h), .int (nI kw), .int (nI kh), .ref b1, .ref b2, .ref b3])), (b1, .inl (cC, 4096, .inl f)), (b2, .inl (cD, 4096, .inl g)), (b3, .inl (cE, 4096, .inl md))] H := hP
      have hD : va_D A [(o, .inr (1, [.int (nI 1), .int (nI w), .int (nI h), .int (nI kw), .int (nI kh), .ref b1, .ref b2, .ref b3])), (b1, .inl (cC, 4096, .inl f)), (b2, .inl (cD, 4096, .inl g)), (b3, .inl (cE, 4096, .inl md))] := hD
      refine lv_aload_n hx hb dY1_put_45 rfl (lv_at hl 0 rfl) ?_
      refine va_get (D := (dC, dI)) (ci := 1) (v := .int (nI 1)) (C := RY1) (T := TY1) (N := 8) hx hb hts (by decide +kernel) hown hK hP 0 rfl rfl 0 (by decide) (hts (.fieldLink RY1 36 "CoefTurnsModel" "thrown" "I") (by decide +kernel)) (fun _ h9 => h9) rfl dY1_put_46 ?_
      refine lv_if_ne (tgt := 66) hx hb dY1_put_49 (by decide) (fun c49 => ?_) (fun c49 => ?_)
      · skip
        have c49 := mt (nI_eq (a := 1) (b := 0) (by omega) (by omega)).mpr c49
        have hP9 := hP.sub (ws' := [(o, .inr (1, [.int (nI 1), .int (nI w), .int (nI h), .int (nI kw), .int (nI kh), .ref b1, .ref b2, .ref b3])), (b1, .inl (cC, 4096, .inl f)), (b2, .inl (cD, 4096, .inl g)), (b3, .inl (cE, 4096, .inl md))]) [0, 1, 2, 3] rfl
        have hD9 := hD.sub (ws' := [(o, .inr (1, [.int (nI 1), .int (nI w), .int (nI h), .int (nI kw), .int (nI kh), .ref b1, .ref b2, .ref b3])), (b1, .inl (cC, 4096, .inl f)), (b2, .inl (cD, 4096, .inl g)), (b3, .inl (cE, 4096, .inl md))]) [0, 1, 2, 3] (by decide) rfl
        exact W.vret hx hb hr (fun t ht hW => ⟨⟨(f, nI 1), rfl, (by have e : cf_pk w h bx bz q v = nI 1 := (by unfold cf_pk; (first | rw [if_pos c7] | rw [if_neg c7] | rw [if_neg (cf_nlt c7)] | rw [if_pos (cf_nle c7)] | skip); (first | rw [if_pos c14] | rw [if_neg c14] | rw [if_neg (cf_nlt c14)] | rw [if_pos (cf_nle c14)] | skip); (first | rw [if_pos c49] | rw [if_neg c49] | rw [if_neg (cf_nlt c49)] | rw [if_pos (cf_nle c49)] | skip)); refine ⟨e.symm, ?_⟩; unfold cf_pu; rw [e, if_neg (nI_ne0 (by omega) (by omega))]; exact cf_Ag.rf), by rw [ht]; exact hP9, va_K.moved hW.alike hK, hD9⟩, hS.F ht⟩) hS.2.2 dY1_put_66
      · skip
        exact absurd c49 (by decide +kernel)
set_option maxHeartbeats 4000000 in
set_option maxRecDepth 100000 in
/-- Y1_turn -/
theorem kY1_turn (l : Launch) (dC : Nat → ClassId) (dI : Nat → Nat → Nat) (sz : Nat) (o b1 b2 b3 : Nat) (cC cD cE : ClassId) (f g md : Nat → Int32) (th : Int32) (w h kw kh : Nat) (q : Int32) (hw : w ≤ 8) (hh : h ≤ 8) (hw1 : 1 ≤ w) (hh1 : 1 ≤ h) : Met l yY1_turn wsY1_turn ({ frames := 2, cells := 0, slots := 0, locals := 47 }) (va_Pc [.ref o, .int q] (fun U => U.heap.size = sz ∧ va_P (dC, dI) vwCm [(o, .inr (1, [.int th, .int (nI w), .int (nI h), .int (nI kw), .int (nI kh), .ref b1, .ref b2, .ref b3])), (b1, .inl (cC, 4096, .inl f)), (b2, .inl (cD, 4096, .inl g)), (b3, .inl (cE, 4096, .inl md))] U.heap ∧ va_K (dC, dI) vwCm [(cC, .int), (cD, .int), (cE, .int)] U ∧ va_D (fun _ => True) [(o, .inr (1, [.int th, .int (nI w), .int (nI h), .int (nI kw), .int (nI kh), .ref b1, .ref b2, .ref b3])), (b1, .inl (cC, 4096, .inl f)), (b2, .inl (cD, 4096, .inl g)), (b3, .inl (cE, 4096, .inl md))])) (va_Qv (fun u : (Nat → Int32) × (Nat → Int32) × Nat × Nat => u.2.2.1 = (if cf_qn q % 2 = 1 then h else w) ∧ u.2.2.2 = (if cf_qn q % 2 = 1 then w else h) ∧ cf_Ag u.2.2.1 u.2.2.2 (cf_V u.1) (cf_tu (cf_qn q) w h (cf_V f))) (fun (u : (Nat → Int32) × (Nat → Int32) × Nat × Nat) (t : State) => va_P (dC, dI) vwCm [(o, .inr (1, [.int (nI 0), .int (nI u.2.2.1), .int (nI u.2.2.2), .int (nI kw), .int (nI kh), .ref b1, .ref b2, .ref b3])), (b1, .inl (cC, 4096, .inl u.1)), (b2, .inl (cD, 4096, .inl g)), (b3, .inl (cE, 4096, .inl u.2.1))] t.heap ∧ va_K (dC, dI) vwCm [(cC, .int), (cD, .int), (cE, .int)] t ∧ va_D (va_A [(o, .inr (1, [.int th, .int (nI w), .int (nI h), .int (nI kw), .int (nI kh), .ref b1, .ref b2, .ref b3])), (b1, .inl (cC, 4096, .inl f)), (b2, .inl (cD, 4096, .inl g)), (b3, .inl (cE, 4096, .inl md))] sz) [(o, .inr (1, [.int (nI 0), .int (nI u.2.2.1), .int (nI u.2.2.2), .int (nI kw), .int (nI kh), .ref b1, .ref b2, .ref b3])), (b1, .inl (cC, 4096, .inl u.1)), (b2, .inl (cD, 4096, .inl g)), (b3, .inl (cE, 4096, .inl u.2.1))]) (va_A [(o, .inr (1, [.int th, .int (nI w), .int (nI h), .int (nI kw), .int (nI kh), .ref b1, .ref b2, .ref b3])), (b1, .inl (cC, 4096, .inl f)), (b2, .inl (cD, 4096, .inl g)), (b3, .inl (cE, 4096, .inl md))] sz)) 0 0 (va_A [(o, .inr (1, [.int th, .int (nI w), .int (nI h), .int (nI kw), .int (nI kh), .ref b1, .ref b2, .ref b3])), (b1, .inl (cC, 4096, .inl f)), (b2, .inl (cD, 4096, .inl g)), (b3, .inl (cE, 4096, .inl md))] sz) := by
  refine Met.ofW (cc := cY1_turn) (maxL := 4) (ret := none) (by decide) rfl ?_
  intro p e s m args below meth c s₁ B hml hv
  obtain ⟨rfl, hsz, hP, hK, hD0⟩ := hv
  have hx := B.exec
  have hb := B.bytes
  have hr := B.returns
  have hts := atoms_spec (ws := wsY1_turn) B.pre
  have hown : s.vm.findClass RY1 = some m.cls := findClass_of_methodNamed B.named
  have hlocks := B.notSynchronized
  subst hsz
  have hD := hD0.self (sz := s.heap.size)
  generalize hAe : va_A [(o, .inr (1, [.int th, .int (nI w), .int (nI h), .int (nI kw), .int (nI kh), .ref b1, .ref b2, .ref b3])), (b1, .inl (cC, 4096, .inl f)), (b2, .inl (cD, 4096, .inl g)), (b3, .inl (cE, 4096, .inl md))] s.heap.size = A at hD ⊢
  have hA : ∀ q : Nat, s.heap.size ≤ q → A q := fun q h => by rw [← hAe]; exact Or.inr h
  have hS : va_S A s.heap s.heap [] := va_S.rf
  have hP : va_P (dC, dI) vwCm [(o, .inr (1, [.int th, .int (nI w), .int (nI h), .int (nI kw), .int (nI kh), .ref b1, .ref b2, .ref b3])), (b1, .inl (cC, 4096, .inl f)), (b2, .inl (cD, 4096, .inl g)), (b3, .inl (cE, 4096, .inl md))] s.heap := hP
  have hl := lv_entry ([.ref o, .int q]) (n := 4) (Nat.le_of_ble_eq_true rfl)
  rw [lg_entry_eq]
  generalize (lg_sl ([.ref o, .int q]) ++ List.replicate (4 - (lg_sl ([.ref o, .int q])).length) Slot.unset).toArray = ls at hl ⊢
  have hl : lv_has ls 4 [(0, .ref o), (1, .int q)] := hl
  have hq4 := (cf_qn_c q).2
  refine lv_aload_n hx hb dY1_turn_0 rfl (lv_at hl 0 rfl) ?_
  refine lv_iconst (v := nI 0) hx hb dY1_turn_1 (by decide +kernel) ?_
  refine va_put (D := (dC, dI)) (ci := 1) (v := .int (nI 0)) (ty := .int) (C := RY1) (T := TY1) (N := 8) hx hb hts (by decide +kernel) tyY1 tyY1_ok nmY1 hown hK hP hD hS 0 rfl rfl 0 (by decide) (hts (.fieldLink RY1 36 "CoefTurnsModel" "thrown" "I") (by decide +kernel)) (fun _ h9 => h9) rfl (by decide +kernel) rfl rfl (Nat.le_of_ble_eq_true rfl) dY1_turn_2 (fun H locs hP hD hS => ?_)
  have hP : va_P (dC, dI) vwCm [(o, .inr (1, [.int (nI 0), .int (nI w), .int (nI h), .int (nI kw), .int (nI kh), .ref b1, .ref b2, .ref b3])), (b1, .inl (cC, 4096, .inl f)), (b2, .inl (cD, 4096, .inl g)), (b3, .inl (cE, 4096, .inl md))] H := hP
  have hD : va_D A [(o, .inr (1, [.int (nI 0), .int (nI w), .int (nI h), .int (nI kw), .int (nI kh), .ref b1, .ref b2, .ref b3])), (b1, .inl (cC, 4096, .inl f)), (b2, .inl (cD, 4096, .inl g)), (b3, .inl (cE, 4096, .inl md))] := hD
  refine lv_iload_n hx hb dY1_turn_5 rfl (lv_at hl 1 rfl) ?_
  refine lv_iconst (v := nI 4) hx hb dY1_turn_6 (by decide +kernel) ?_
  refine lv_irem hx hb dY1_turn_7 (nI_ne0 (by omega) (by omega)) ?_
  refine lv_iconst (v := nI 4) hx hb dY1_turn_8 (by decide +kernel) ?_
  refine lv_iadd hx hb dY1_turn_9 ?_
  refine lv_iconst (v := nI 4) hx hb dY1_turn_10 (by decide +kernel) ?_
  refine lv_irem hx hb dY1_turn_11 (nI_ne0 (by omega) (by omega)) ?_
  refine cf_top (cf_qn_m q) ?_
  refine lv_istore_n (lv' := [(2, .int (nI (cf_qn q))), (0, .ref o), (1, .int q)]) hx hb dY1_turn_12 rfl hl (by decide) rfl (fun ls hl => ?_)
  refine lv_iconst (v := nI 0) hx hb dY1_turn_13 (by decide +kernel) ?_
  refine lv_istore_n (lv' := [(3, .int (nI 0)), (2, .int (nI (cf_qn q))), (0, .ref o), (1, .int q)]) hx hb dY1_turn_14 rfl hl (by decide) rfl (fun ls hl => ?_)
  have lp15 : ∀ (n15 : Nat) (k : Nat) (Wd : Nat) (H2 : Nat) (fc : Nat → Int32) (mc : Nat → Int32), k ≤ cf_qn q → cf_qn q < k + n15 → Wd = (if k % 2 = 1 then h else w) → H2 = (if k % 2 = 1 then w else h) → (Wd ≤ 8 ∧ H2 ≤ 8 ∧ 1 ≤ Wd ∧ 1 ≤ H2) → cf_Ag Wd H2 (cf_V fc) (cf_tu k w h (cf_V f)) → ∀ (H : Heap) (locs : List Loc), va_P (dC, dI) vwCm [(o, .inr (1, [.int (nI 0), .int (nI Wd), .int (nI H2), .int (nI kw), .int (nI kh), .ref b1, .ref b2, .ref b3])), (b1, .inl (cC, 4096, .inl fc)), (b2, .inl (cD, 4096, .inl g)), (b3, .inl (cE, 4096, .inl mc))] H → va_D A [(o, .inr (1, [.int (nI 0), .int (nI Wd), .int (nI H2), .int (nI kw), .int (nI kh), .ref b1, .ref b2, .ref b3])), (b1, .inl (cC, 4096, .inl fc)), (b2, .inl (cD, 4096, .inl g)), (b3, .inl (cE, 4096, .inl mc))] → va_S A s.heap H locs → ∀ (ls : Array Slot), lv_has ls 4 [(0, .ref o), (2, .int (nI (cf_qn q))), (3, .int (nI k))] → W p l e (headSpec wsY1_turn ({ frames := 2, cells := 0, slots := 0, locals := 47 })).room s m ([.ref o, .int q] : List Value).toArray below meth c H locs 0 0 (MQ below (va_Qv (fun u : (Nat → Int32) × (Nat → Int32) × Nat × Nat => u.2.2.1 = (if cf_qn q % 2 = 1 then h else w) ∧ u.2.2.2 = (if cf_qn q % 2 = 1 then w else h) ∧ cf_Ag u.2.2.1 u.2.2.2 (cf_V u.1) (cf_tu (cf_qn q) w h (cf_V f))) (fun (u : (Nat → Int32) × (Nat → Int32) × Nat × Nat) (t : State) => va_P (dC, dI) vwCm [(o, .inr (1, [.int (nI 0), .int (nI u.2.2.1), .int (nI u.2.2.2), .int (nI kw), .int (nI kh), .ref b1, .ref b2, .ref b3])), (b1, .inl (cC, 4096, .inl u.1)), (b2, .inl (cD, 4096, .inl g)), (b3, .inl (cE, 4096, .inl u.2.1))] t.heap ∧ va_K (dC, dI) vwCm [(cC, .int), (cD, .int), (cE, .int)] t ∧ va_D A [(o, .inr (1, [.int (nI 0), .int (nI u.2.2.1), .int (nI u.2.2.2), .int (nI kw), .int (nI kh), .ref b1, .ref b2, .ref b3])), (b1, .inl (cC, 4096, .inl u.1)), (b2, .inl (cD, 4096, .inl g)), (b3, .inl (cE, 4096, .inl u.2.1))]) A) ([.ref o, .int q] : List Value).toArray s 0 0 A) (F0 m 15 ls []) := by
    intro n15
    induction n15 with
    | zero => intro k Wd H2 fc mc h1 h2; exact absurd h2 (by omega)
    | succ n15 ih15 =>
      intro k Wd H2 fc mc hk15 hn15 hW2 hH2 hb8 hI H locs hP hD hS ls hl
      refine lv_iload_n hx hb dY1_turn_15 rfl (lv_at hl 2 rfl) ?_
      refine lv_iload_n hx hb dY1_turn_16 rfl (lv_at hl 1 rfl) ?_
      refine lv_icmp_ge (tgt := 34) hx hb dY1_turn_17 (by decide) (fun c17 => ?_) (fun c17 => ?_)
      · skip
        have c17 := (nI_leI (a := cf_qn q) (b := k) (by omega) (by omega)).mp c17
        have hP9 := hP.sub (ws' := [(o, .inr (1, [.int (nI 0), .int (nI Wd), .int (nI H2), .int (nI kw), .int (nI kh), .ref b1, .ref b2, .ref b3])), (b1, .inl (cC, 4096, .inl fc)), (b2, .inl (cD, 4096, .inl g)), (b3, .inl (cE, 4096, .inl mc))]) [0, 1, 2, 3] rfl
        have hD9 := hD.sub (ws' := [(o, .inr (1, [.int (nI 0), .int (nI Wd), .int (nI H2), .int (nI kw), .int (nI kh), .ref b1, .ref b2, .ref b3])), (b1, .inl (cC, 4096, .inl fc)), (b2, .inl (cD, 4096, .inl g)), (b3, .inl (cE, 4096, .inl mc))]) [0, 1, 2, 3] (by decide) rfl
        exact W.vret hx hb hr (fun t ht hW => ⟨⟨(fc, mc, Wd, H2), rfl, (by have e : k = cf_qn q := (by omega); rw [e] at hI hW2 hH2; exact ⟨hW2, hH2, hI⟩), by rw [ht]; exact hP9, va_K.moved hW.alike hK, hD9⟩, hS.F ht⟩) hS.2.2 dY1_turn_34
      · skip
        have c17 := mt (nI_leI (a := cf_qn q) (b := k) (by omega) (by omega)).mpr c17
        refine lv_aload_n hx hb dY1_turn_20 rfl (lv_at hl 0 rfl) ?_
        have hPc := hP.sub (ws' := [(o, .inr (1, [.int (nI 0), .int (nI Wd), .int (nI H2), .int (nI kw), .int (nI kh), .ref b1, .ref b2, .ref b3])), (b1, .inl (cC, 4096, .inl fc)), (b2, .inl (cD, 4096, .inl g)), (b3, .inl (cE, 4096, .inl mc))]) [0, 1, 2, 3] rfl
        have hKc := hK.sub (tys' := [(cC, .int), (cD, .int), (cE, .int)]) [0, 1, 2] rfl
        have hDc := hD.sub (ws' := [(o, .inr (1, [.int (nI 0), .int (nI Wd), .int (nI H2), .int (nI kw), .int (nI kh), .ref b1, .ref b2, .ref b3])), (b1, .inl (cC, 4096, .inl fc)), (b2, .inl (cD, 4096, .inl g)), (b3, .inl (cE, 4096, .inl mc))]) [0, 1, 2, 3] (by decide) rfl
        have hFc := va_free (wc := [(o, .inr (1, [.int (nI 0), .int (nI Wd), .int (nI H2), .int (nI kw), .int (nI kh), .ref b1, .ref b2, .ref b3])), (b1, .inl (cC, 4096, .inl fc)), (b2, .inl (cD, 4096, .inl g)), (b3, .inl (cE, 4096, .inl mc))]) hD hS hA [0, 1, 2, 3] rfl
        refine va_callv (va_runV (As := []) (rest := []) ⟨hx, hb, hml, hown, hts⟩ (kY1_transposeAll l dC dI H.size o b1 b2 b3 cC cD cE fc g mc (nI 0) Wd H2 kw kh (by omega) (by omega) (by omega) (by omega)) (cwV 0 hts gY1_turn_Y1_transposeAll rfl rfl rfl (by decide +kernel) ⟨Nat.le_of_ble_eq_true rfl, Nat.le_of_ble_eq_true rfl⟩) ⟨fun a U g mk q => by obtain ⟨q0, q1, qP, qK, qD⟩ := q; exact ⟨q0, q1, qP, va_K.moved (u := U) (U := U.calling g mk a) (Vm.Alike.refl U.vm) qK, qD⟩, va_recv hKc hPc (ci := 1) (q0 := 0) rfl rfl, fun U hU hW => ⟨rfl, by rw [hU], by rw [hU]; exact hPc, va_K.moved hW.alike hKc, hDc.weaken (fun _ _ _ _ => trivial)⟩⟩ rfl rfl hl.1 rfl (lv_room (Nat.le_of_ble_eq_true rfl)) dY1_turn_21 ⟨Nat.le_of_ble_eq_true rfl, Nat.le_of_ble_eq_true rfl⟩) hS (fun q _ h => hFc q h) hFc (fun u21 t H1 locs ht hvm w21 hB hz1 hk1 hS => ?_)
        obtain ⟨hP1, -, hD1⟩ := hB
        rw [ht] at hP1
        try dsimp only at w21
        obtain ⟨hP, hD⟩ := va_join (wr := []) (w1 := [(o, .inr (1, [.int (nI 0), .int (nI H2), .int (nI Wd), .int (nI kw), .int (nI kh), .ref b1, .ref b2, .ref b3])), (b1, .inl (cC, 4096, .inl u21.1)), (b2, .inl (cD, 4096, .inl g)), (b3, .inl (cE, 4096, .inl u21.2))]) hP hD [0, 1, 2, 3] [] rfl rfl (by decide) (by decide) hk1 hFc hP1 hD1
        generalize H1 = H at hP hS ⊢
        have hP : va_P (dC, dI) vwCm [(o, .inr (1, [.int (nI 0), .int (nI H2), .int (nI Wd), .int (nI kw), .int (nI kh), .ref b1, .ref b2, .ref b3])), (b1, .inl (cC, 4096, .inl u21.1)), (b2, .inl (cD, 4096, .inl g)), (b3, .inl (cE, 4096, .inl u21.2))] H := hP
        have hD : va_D A [(o, .inr (1, [.int (nI 0), .int (nI H2), .int (nI Wd), .int (nI kw), .int (nI kh), .ref b1, .ref b2, .ref b3])), (b1, .inl (cC, 4096, .inl u21.1)), (b2, .inl (cD, 4096, .inl g)), (b3, .inl (cE, 4096, .inl u21.2))] := hD
        refine lv_aload_n hx hb dY1_turn_24 rfl (lv_at hl 0 rfl) ?_
        have hPc := hP.sub (ws' := [(o, .inr (1, [.int (nI 0), .int (nI H2), .int (nI Wd), .int (nI kw), .int (nI kh), .ref b1, .ref b2, .ref b3])), (b1, .inl (cC, 4096, .inl u21.1)), (b2, .inl (cD, 4096, .inl g)), (b3, .inl (cE, 4096, .inl u21.2))]) [0, 1, 2, 3] rfl
        have hKc := hK.sub (tys' := [(cC, .int), (cD, .int), (cE, .int)]) [0, 1, 2] rfl
        have hDc := hD.sub (ws' := [(o, .inr (1, [.int (nI 0), .int (nI H2), .int (nI Wd), .int (nI kw), .int (nI kh), .ref b1, .ref b2, .ref b3])), (b1, .inl (cC, 4096, .inl u21.1)), (b2, .inl (cD, 4096, .inl g)), (b3, .inl (cE, 4096, .inl u21.2))]) [0, 1, 2, 3] (by decide) rfl
        have hFc := va_free (wc := [(o, .inr (1, [.int (nI 0), .int (nI H2), .int (nI Wd), .int (nI kw), .int (nI kh), .ref b1, .ref b2, .ref b3])), (b1, .inl (cC, 4096, .inl u21.1)), (b2, .inl (cD, 4096, .inl g)), (b3, .inl (cE, 4096, .inl u21.2))]) hD hS hA [0, 1, 2, 3] rfl
        refine va_callv (va_runV (As := []) (rest := []) ⟨hx, hb, hml, hown, hts⟩ (kY1_mirrorAll l dC dI H.size o b1 b2 b3 cC cD cE u21.1 g u21.2 (nI 0) H2 Wd kw kh (by omega) (by omega) (by omega) (by omega)) (cwV 0 hts gY1_turn_Y1_mirrorAll rfl rfl rfl (by decide +kernel) ⟨Nat.le_of_ble_eq_true rfl, Nat.le_of_ble_eq_true rfl⟩) ⟨fun a U g mk q => by obtain ⟨q0, q1, qP, qK, qD⟩ := q; exact ⟨q0, q1, qP, va_K.moved (u := U) (U := U.calling g mk a) (Vm.Alike.refl U.vm) qK, qD⟩, va_recv hKc hPc (ci := 1) (q0 := 0) rfl rfl, fun U hU hW => ⟨rfl, by rw [hU], by rw [hU]; exact hPc, va_K.moved hW.alike hKc, hDc.weaken (fun _ _ _ _ => trivial)⟩⟩ rfl rfl hl.1 rfl (lv_room (Nat.le_of_ble_eq_true rfl)) dY1_turn_25 ⟨Nat.le_of_ble_eq_true rfl, Nat.le_of_ble_eq_true rfl⟩) hS (fun q _ h => hFc q h) hFc (fun u25 t H1 locs ht hvm w25 hB hz1 hk1 hS => ?_)
        obtain ⟨hP1, -, hD1⟩ := hB
        rw [ht] at hP1
        try dsimp only at w25
        obtain ⟨hP, hD⟩ := va_join (wr := []) (w1 := [(o, .inr (1, [.int (nI 0), .int (nI H2), .int (nI Wd), .int (nI kw), .int (nI kh), .ref b1, .ref b2, .ref b3])), (b1, .inl (cC, 4096, .inl u25.1)), (b2, .inl (cD, 4096, .inl g)), (b3, .inl (cE, 4096, .inl u25.2))]) hP hD [0, 1, 2, 3] [] rfl rfl (by decide) (by decide) hk1 hFc hP1 hD1
        generalize H1 = H at hP hS ⊢
        have hP : va_P (dC, dI) vwCm [(o, .inr (1, [.int (nI 0), .int (nI H2), .int (nI Wd), .int (nI kw), .int (nI kh), .ref b1, .ref b2, .ref b3])), (b1, .inl (cC, 4096, .inl u25.1)), (b2, .inl (cD, 4096, .inl g)), (b3, .inl (cE, 4096, .inl u25.2))] H := hP
        have hD : va_D A [(o, .inr (1, [.int (nI 0), .int (nI H2), .int (nI Wd), .int (nI kw), .int (nI kh), .ref b1, .ref b2, .ref b3])), (b1, .inl (cC, 4096, .inl u25.1)), (b2, .inl (cD, 4096, .inl g)), (b3, .inl (cE, 4096, .inl u25.2))] := hD
        refine lv_iinc (v := nI (k + 1)) (lv' := [(3, .int (nI (k + 1))), (0, .ref o), (2, .int (nI (cf_qn q)))]) hx hb dY1_turn_28 hl (k := 2) rfl (by rw [← nI_add]; rfl) (by decide) rfl (fun ls hl => ?_)
        refine lv_goto (tgt := 15) hx hb dY1_turn_31 (by decide) ?_
        exact ih15 (k + 1) H2 Wd u25.1 u25.2 (by omega) (by omega) (by rw [cf_par]; exact hH2) (by rw [cf_par]; exact hW2) (by omega) (by rw [cf_tu_s, ← hH2]; exact w25.tr (cf_mi_ag (w21.tr (cf_tr_ag hI)))) H locs hP hD hS ls (lv_sub hl [1, 2, 0] rfl)
  exact lp15 (cf_qn q + 1) 0 w h f md (by omega) (by omega) rfl rfl ⟨hw, hh, hw1, hh1⟩ cf_Ag.rf H locs hP hD hS ls (lv_sub hl [2, 1, 0] rfl)
set_option maxHeartbeats 4000000 in
set_option maxRecDepth 100000 in
/-- Y1_swap -/
theorem kY1_swap (l : Launch) (dC : Nat → ClassId) (dI : Nat → Nat → Nat) (sz : Nat) (o b1 b2 b3 : Nat) (cC cD cE : ClassId) (f g md : Nat → Int32) (th : Int32) (w h kw kh : Nat) (ax az bx bz : Int32) (hw : w ≤ 8) (hh : h ≤ 8) : Met l yY1_swap wsY1_swap ({ frames := 1, cells := 0, slots := 0, locals := 22 }) (va_Pc [.ref o, .int ax, .int az, .int bx, .int bz] (fun U => U.heap.size = sz ∧ va_P (dC, dI) vwCm [(o, .inr (1, [.int th, .int (nI w), .int (nI h), .int (nI kw), .int (nI kh), .ref b1, .ref b2, .ref b3])), (b1, .inl (cC, 4096, .inl f)), (b2, .inl (cD, 4096, .inl g)), (b3, .inl (cE, 4096, .inl md))] U.heap ∧ va_K (dC, dI) vwCm [(cC, .int), (cD, .int), (cE, .int)] U ∧ va_D (fun _ => True) [(o, .inr (1, [.int th, .int (nI w), .int (nI h), .int (nI kw), .int (nI kh), .ref b1, .ref b2, .ref b3])), (b1, .inl (cC, 4096, .inl f)), (b2, .inl (cD, 4096, .inl g)), (b3, .inl (cE, 4096, .inl md))])) (va_Qi (fun (r : Int32) (u : Nat → Int32) => r = cf_swr w h ax az bx bz ∧ cf_Ag w h (cf_V u) (cf_swG w h ax az bx bz (cf_V f))) (fun (u : Nat → Int32) (t : State) => va_P (dC, dI) vwCm [(o, .inr (1, [.int (nI 0), .int (nI w), .int (nI h), .int (nI kw), .int (nI kh), .ref b1, .ref b2, .ref b3])), (b1, .inl (cC, 4096, .inl u)), (b2, .inl (cD, 4096, .inl g)), (b3, .inl (cE, 4096, .inl md))] t.heap ∧ va_K (dC, dI) vwCm [(cC, .int), (cD, .int), (cE, .int)] t ∧ va_D (va_A [(o, .inr (1, [.int th, .int (nI w), .int (nI h), .int (nI kw), .int (nI kh), .ref b1, .ref b2, .ref b3])), (b1, .inl (cC, 4096, .inl f)), (b2, .inl (cD, 4096, .inl g)), (b3, .inl (cE, 4096, .inl md))] sz) [(o, .inr (1, [.int (nI 0), .int (nI w), .int (nI h), .int (nI kw), .int (nI kh), .ref b1, .ref b2, .ref b3])), (b1, .inl (cC, 4096, .inl u)), (b2, .inl (cD, 4096, .inl g)), (b3, .inl (cE, 4096, .inl md))]) (va_A [(o, .inr (1, [.int th, .int (nI w), .int (nI h), .int (nI kw), .int (nI kh), .ref b1, .ref b2, .ref b3])), (b1, .inl (cC, 4096, .inl f)), (b2, .inl (cD, 4096, .inl g)), (b3, .inl (cE, 4096, .inl md))] sz)) 0 0 (va_A [(o, .inr (1, [.int th, .int (nI w), .int (nI h), .int (nI kw), .int (nI kh), .ref b1, .ref b2, .ref b3])), (b1, .inl (cC, 4096, .inl f)), (b2, .inl (cD, 4096, .inl g)), (b3, .inl (cE, 4096, .inl md))] sz) := by
  refine Met.ofW (cc := cY1_swap) (maxL := 7) (ret := (some .boolean)) (by decide) rfl ?_
  intro p e s m args below meth c s₁ B hml hv
  obtain ⟨rfl, hsz, hP, hK, hD0⟩ := hv
  have hx := B.exec
  have hb := B.bytes
  have hr := B.returns
  have hts := atoms_spec (ws := wsY1_swap) B.pre
  have hown : s.vm.findClass RY1 = some m.cls := findClass_of_methodNamed B.named
  have hlocks := B.notSynchronized
  subst hsz
  have hD := hD0.self (sz := s.heap.size)
  generalize hAe : va_A [(o, .inr (1, [.int th, .int (nI w), .int (nI h), .int (nI kw), .int (nI kh), .ref b1, .ref b2, .ref b3])), (b1, .inl (cC, 4096, .inl f)), (b2, .inl (cD, 4096, .inl g)), (b3, .inl (cE, 4096, .inl md))] s.heap.size = A at hD ⊢
  have hA : ∀ q : Nat, s.heap.size ≤ q → A q := fun q h => by rw [← hAe]; exact Or.inr h
  have hS : va_S A s.heap s.heap [] := va_S.rf
  have hP : va_P (dC, dI) vwCm [(o, .inr (1, [.int th, .int (nI w), .int (nI h), .int (nI kw), .int (nI kh), .ref b1, .ref b2, .ref b3])), (b1, .inl (cC, 4096, .inl f)), (b2, .inl (cD, 4096, .inl g)), (b3, .inl (cE, 4096, .inl md))] s.heap := hP
  have hl := lv_entry ([.ref o, .int ax, .int az, .int bx, .int bz]) (n := 7) (Nat.le_of_ble_eq_true rfl)
  rw [lg_entry_eq]
  generalize (lg_sl ([.ref o, .int ax, .int az, .int bx, .int bz]) ++ List.replicate (7 - (lg_sl ([.ref o, .int ax, .int az, .int bx, .int bz])).length) Slot.unset).toArray = ls at hl ⊢
  have hl : lv_has ls 7 [(0, .ref o), (1, .int ax), (2, .int az), (3, .int bx), (4, .int bz)] := hl
  refine lv_aload_n hx hb dY1_swap_0 rfl (lv_at hl 0 rfl) ?_
  refine lv_iconst (v := nI 0) hx hb dY1_swap_1 (by decide +kernel) ?_
  refine va_put (D := (dC, dI)) (ci := 1) (v := .int (nI 0)) (ty := .int) (C := RY1) (T := TY1) (N := 8) hx hb hts (by decide +kernel) tyY1 tyY1_ok nmY1 hown hK hP hD hS 0 rfl rfl 0 (by decide) (hts (.fieldLink RY1 36 "CoefTurnsModel" "thrown" "I") (by decide +kernel)) (fun _ h9 => h9) rfl (by decide +kernel) rfl rfl (Nat.le_of_ble_eq_true rfl) dY1_swap_2 (fun H locs hP hD hS => ?_)
  have hP : va_P (dC, dI) vwCm [(o, .inr (1, [.int (nI 0), .int (nI w), .int (nI h), .int (nI kw), .int (nI kh), .ref b1, .ref b2, .ref b3])), (b1, .inl (cC, 4096, .inl f)), (b2, .inl (cD, 4096, .inl g)), (b3, .inl (cE, 4096, .inl md))] H := hP
  have hD : va_D A [(o, .inr (1, [.int (nI 0), .int (nI w), .int (nI h), .int (nI kw), .int (nI kh), .ref b1, .ref b2, .ref b3])), (b1, .inl (cC, 4096, .inl f)), (b2, .inl (cD, 4096, .inl g)), (b3, .inl (cE, 4096, .inl md))] := hD
  refine lv_aload_n hx hb dY1_swap_5 rfl (lv_at hl 0 rfl) ?_
  refine lv_iload_n hx hb dY1_swap_6 rfl (lv_at hl 1 rfl) ?_
  refine lv_iload_n hx hb dY1_swap_7 rfl (lv_at hl 2 rfl) ?_
  have hPc := hP.sub (ws' := [(o, .inr (1, [.int (nI 0), .int (nI w), .int (nI h), .int (nI kw), .int (nI kh), .ref b1, .ref b2, .ref b3])), (b1, .inl (cC, 4096, .inl f)), (b2, .inl (cD, 4096, .inl g)), (b3, .inl (cE, 4096, .inl md))]) [0, 1, 2, 3] rfl
  have hKc := hK.sub (tys' := [(cC, .int), (cD, .int), (cE, .int)]) [0, 1, 2] rfl
  refine vp_callSi (W.runV (As := [.int ax, .int az]) (rest := []) ⟨hx, hb, hml, hown, hts⟩ (kY1_isBlock l dC dI o b1 b2 b3 cC cD cE f g md (nI 0) w h kw kh ax az) (cwV 2 hts gY1_swap_Y1_isBlock rfl rfl rfl (by decide +kernel) ⟨Nat.le_of_ble_eq_true rfl, Nat.le_of_ble_eq_true rfl⟩) ⟨fun a U g mk q => by obtain ⟨q0, qP, qK⟩ := q; exact ⟨q0, qP, va_K.moved (u := U) (U := U.calling g mk a) (Vm.Alike.refl U.vm) qK⟩, va_recv hKc hPc (ci := 1) (q0 := 0) rfl rfl, fun U hU hW => ⟨rfl, by rw [hU]; exact hPc, va_K.moved hW.alike hKc⟩⟩ rfl rfl hl.1 rfl (lv_room (Nat.le_of_ble_eq_true rfl)) dY1_swap_8 ⟨Nat.le_of_ble_eq_true rfl, Nat.le_of_ble_eq_true rfl⟩) (fun r8 w8 => ?_)
  subst w8
  refine lv_if_eq (tgt := 24) hx hb dY1_swap_11 (by decide) (fun c11 => ?_) (fun c11 => ?_)
  · skip
    refine lv_iconst (v := nI 0) hx hb dY1_swap_24 (by decide +kernel) ?_
    have hP9 := hP.sub (ws' := [(o, .inr (1, [.int (nI 0), .int (nI w), .int (nI h), .int (nI kw), .int (nI kh), .ref b1, .ref b2, .ref b3])), (b1, .inl (cC, 4096, .inl f)), (b2, .inl (cD, 4096, .inl g)), (b3, .inl (cE, 4096, .inl md))]) [0, 1, 2, 3] rfl
    have hD9 := hD.sub (ws' := [(o, .inr (1, [.int (nI 0), .int (nI w), .int (nI h), .int (nI kw), .int (nI kh), .ref b1, .ref b2, .ref b3])), (b1, .inl (cC, 4096, .inl f)), (b2, .inl (cD, 4096, .inl g)), (b3, .inl (cE, 4096, .inl md))]) [0, 1, 2, 3] (by decide) rfl
    exact W.zret (ty := .boolean) hx hb hr rfl (fun t ht hW => ⟨⟨_, f, rfl, (by unfold cf_swr cf_swG; first | (rw [if_pos c11, if_pos c11]; exact ⟨rfl, cf_Ag.rf⟩) | (rw [if_neg c11, if_pos c21, if_neg c11, if_pos c21]; exact ⟨rfl, cf_Ag.rf⟩)), by rw [ht]; exact hP9, va_K.moved hW.alike hK, hD9⟩, hS.F ht⟩) hS.2.2 dY1_swap_25
  · skip
    obtain ⟨x, z, hx_, hz_, eax, eaz⟩ := cf_ib_1 hw hh c11
    refine lv_aload_n hx hb dY1_swap_14 rfl (lv_at hl 0 rfl) ?_
    refine lv_iload_n hx hb dY1_swap_15 rfl (lv_at hl 3 rfl) ?_
    refine lv_iload hx hb dY1_swap_16 (lv_at hl 4 rfl) ?_
    have hPc := hP.sub (ws' := [(o, .inr (1, [.int (nI 0), .int (nI w), .int (nI h), .int (nI kw), .int (nI kh), .ref b1, .ref b2, .ref b3])), (b1, .inl (cC, 4096, .inl f)), (b2, .inl (cD, 4096, .inl g)), (b3, .inl (cE, 4096, .inl md))]) [0, 1, 2, 3] rfl
    have hKc := hK.sub (tys' := [(cC, .int), (cD, .int), (cE, .int)]) [0, 1, 2] rfl
    refine vp_callSi (W.runV (As := [.int bx, .int bz]) (rest := []) ⟨hx, hb, hml, hown, hts⟩ (kY1_isBlock l dC dI o b1 b2 b3 cC cD cE f g md (nI 0) w h kw kh bx bz) (cwV 2 hts gY1_swap_Y1_isBlock rfl rfl rfl (by decide +kernel) ⟨Nat.le_of_ble_eq_true rfl, Nat.le_of_ble_eq_true rfl⟩) ⟨fun a U g mk q => by obtain ⟨q0, qP, qK⟩ := q; exact ⟨q0, qP, va_K.moved (u := U) (U := U.calling g mk a) (Vm.Alike.refl U.vm) qK⟩, va_recv hKc hPc (ci := 1) (q0 := 0) rfl rfl, fun U hU hW => ⟨rfl, by rw [hU]; exact hPc, va_K.moved hW.alike hKc⟩⟩ rfl rfl hl.1 rfl (lv_room (Nat.le_of_ble_eq_true rfl)) dY1_swap_18 ⟨Nat.le_of_ble_eq_true rfl, Nat.le_of_ble_eq_true rfl⟩) (fun r18 w18 => ?_)
    subst w18
    refine lv_if_ne (tgt := 26) hx hb dY1_swap_21 (by decide) (fun c21 => ?_) (fun c21 => ?_)
    · skip
      obtain ⟨x2, z2, hx2_, hz2_, ebx, ebz⟩ := cf_ib_1 hw hh c21
      refine lv_iconst (v := nI 0) hx hb dY1_swap_26 (by decide +kernel) ?_
      refine lv_istore (lv' := [(5, .int (nI 0)), (0, .ref o), (1, .int ax), (2, .int az), (3, .int bx), (4, .int bz)]) hx hb dY1_swap_27 hl (by decide) rfl (fun ls hl => ?_)
      have lp29 : ∀ (n29 : Nat) (p0 : Nat) (fc : Nat → Int32), p0 ≤ 64 → 64 < p0 + n29 → cf_xb f fc (8 * z + x) (8 * z2 + x2) p0 → ∀ (H : Heap) (locs : List Loc), va_P (dC, dI) vwCm [(o, .inr (1, [.int (nI 0), .int (nI w), .int (nI h), .int (nI kw), .int (nI kh), .ref b1, .ref b2, .ref b3])), (b1, .inl (cC, 4096, .inl fc)), (b2, .inl (cD, 4096, .inl g)), (b3, .inl (cE, 4096, .inl md))] H → va_D A [(o, .inr (1, [.int (nI 0), .int (nI w), .int (nI h), .int (nI kw), .int (nI kh), .ref b1, .ref b2, .ref b3])), (b1, .inl (cC, 4096, .inl fc)), (b2, .inl (cD, 4096, .inl g)), (b3, .inl (cE, 4096, .inl md))] → va_S A s.heap H locs → ∀ (ls : Array Slot), lv_has ls 7 [(0, .ref o), (1, .int ax), (2, .int az), (3, .int bx), (4, .int bz), (5, .int (nI p0))] → W p l e (headSpec wsY1_swap ({ frames := 1, cells := 0, slots := 0, locals := 22 })).room s m ([.ref o, .int ax, .int az, .int bx, .int bz] : List Value).toArray below meth c H locs 0 0 (MQ below (va_Qi (fun (r : Int32) (u : Nat → Int32) => r = cf_swr w h ax az bx bz ∧ cf_Ag w h (cf_V u) (cf_swG w h ax az bx bz (cf_V f))) (fun (u : Nat → Int32) (t : State) => va_P (dC, dI) vwCm [(o, .inr (1, [.int (nI 0), .int (nI w), .int (nI h), .int (nI kw), .int (nI kh), .ref b1, .ref b2, .ref b3])), (b1, .inl (cC, 4096, .inl u)), (b2, .inl (cD, 4096, .inl g)), (b3, .inl (cE, 4096, .inl md))] t.heap ∧ va_K (dC, dI) vwCm [(cC, .int), (cD, .int), (cE, .int)] t ∧ va_D A [(o, .inr (1, [.int (nI 0), .int (nI w), .int (nI h), .int (nI kw), .int (nI kh), .ref b1, .ref b2, .ref b3])), (b1, .inl (cC, 4096, .inl u)), (b2, .inl (cD, 4096, .inl g)), (b3, .inl (cE, 4096, .inl md))]) A) ([.ref o, .int ax, .int az, .int bx, .int bz] : List Value).toArray s 0 0 A) (F0 m 29 ls []) := by
        intro n29
        induction n29 with
        | zero => intro p0 fc h1 h2; exact absurd h2 (by omega)
        | succ n29 ih29 =>
          intro p0 fc hk29 hn29 hI H locs hP hD hS ls hl
          refine lv_iload hx hb dY1_swap_29 (lv_at hl 5 rfl) ?_
          refine lv_bipush (v := nI 64) hx hb dY1_swap_31 (by decide +kernel) ?_
          refine lv_icmp_ge (tgt := 100) hx hb dY1_swap_33 (by decide) (fun c33 => ?_) (fun c33 => ?_)
          · skip
            have c33 := (nI_leI (a := 64) (b := p0) (by omega) (by omega)).mp c33
            refine lv_iconst (v := nI 1) hx hb dY1_swap_100 (by decide +kernel) ?_
            have hP9 := hP.sub (ws' := [(o, .inr (1, [.int (nI 0), .int (nI w), .int (nI h), .int (nI kw), .int (nI kh), .ref b1, .ref b2, .ref b3])), (b1, .inl (cC, 4096, .inl fc)), (b2, .inl (cD, 4096, .inl g)), (b3, .inl (cE, 4096, .inl md))]) [0, 1, 2, 3] rfl
            have hD9 := hD.sub (ws' := [(o, .inr (1, [.int (nI 0), .int (nI w), .int (nI h), .int (nI kw), .int (nI kh), .ref b1, .ref b2, .ref b3])), (b1, .inl (cC, 4096, .inl fc)), (b2, .inl (cD, 4096, .inl g)), (b3, .inl (cE, 4096, .inl md))]) [0, 1, 2, 3] (by decide) rfl
            exact W.zret (ty := .boolean) hx hb hr rfl (fun t ht hW => ⟨⟨_, fc, rfl, (by have e : p0 = 64 := (by omega); rw [e] at hI; rw [eax, eaz, ebx, ebz, cf_swr_n hw hh hx_ hz_ hx2_ hz2_, cf_swG_n hw hh hx_ hz_ hx2_ hz2_]; exact ⟨rfl, cf_xB_sx (cf_xb_e hI) hw hx_ hx2_⟩), by rw [ht]; exact hP9, va_K.moved hW.alike hK, hD9⟩, hS.F ht⟩) hS.2.2 dY1_swap_101
          · skip
            have c33 := mt (nI_leI (a := 64) (b := p0) (by omega) (by omega)).mpr c33
            refine lv_aload_n hx hb dY1_swap_36 rfl (lv_at hl 0 rfl) ?_
            refine va_get (D := (dC, dI)) (ci := 1) (v := .ref b1) (C := RY1) (T := TY1) (N := 8) hx hb hts (by decide +kernel) hown hK hP 0 rfl rfl 5 (by decide) (hts (.fieldLink RY1 7 "CoefTurnsModel" "plane" "[I") (by decide +kernel)) (fun _ h9 => h9) rfl dY1_swap_37 ?_
            refine lv_iload_n hx hb dY1_swap_40 rfl (lv_at hl 1 rfl) ?_
            refine cf_top eax ?_
            refine lv_iload_n hx hb dY1_swap_41 rfl (lv_at hl 2 rfl) ?_
            refine cf_top eaz ?_
            refine vp_callSi (W.runS (As := [.int (nI x), .int (nI z)]) (rest := [.ref b1]) ⟨hx, hb, hml, hown, hts⟩ (kY1_block l x z) (va_cwS 2 hts gY1_swap_Y1_block rfl rfl rfl (by decide +kernel) ⟨Nat.le_of_ble_eq_true rfl, Nat.le_of_ble_eq_true rfl⟩) ⟨fun a U g mk q => q, fun U hU hW => ⟨rfl, trivial⟩⟩ rfl rfl hl.1 rfl (lv_room (Nat.le_of_ble_eq_true rfl)) dY1_swap_42 ⟨Nat.le_of_ble_eq_true rfl, Nat.le_of_ble_eq_true rfl⟩) (fun r42 w42 => ?_)
            subst w42
            refine lv_iload hx hb dY1_swap_45 (lv_at hl 5 rfl) ?_
            refine lv_iadd hx hb dY1_swap_47 ?_
            refine cf_top (nI_add _ _) ?_
            refine cf_iald (D := (dC, dI)) hx hb hK hP 1 0 rfl rfl (k := 64 * (8 * z + x) + p0) (by omega) (by decide) dY1_swap_48 ?_
            refine lv_istore (lv' := [(6, .int (fc (64 * (8 * z + x) + p0))), (0, .ref o), (1, .int ax), (2, .int az), (3, .int bx), (4, .int bz), (5, .int (nI p0))]) hx hb dY1_swap_49 hl (by decide) rfl (fun ls hl => ?_)
            refine lv_aload_n hx hb dY1_swap_51 rfl (lv_at hl 1 rfl) ?_
            refine va_get (D := (dC, dI)) (ci := 1) (v := .ref b1) (C := RY1) (T := TY1) (N := 8) hx hb hts (by decide +kernel) hown hK hP 0 rfl rfl 5 (by decide) (hts (.fieldLink RY1 7 "CoefTurnsModel" "plane" "[I") (by decide +kernel)) (fun _ h9 => h9) rfl dY1_swap_52 ?_
            refine lv_iload_n hx hb dY1_swap_55 rfl (lv_at hl 2 rfl) ?_
            refine cf_top eax ?_
            refine lv_iload_n hx hb dY1_swap_56 rfl (lv_at hl 3 rfl) ?_
            refine cf_top eaz ?_
            refine vp_callSi (W.runS (As := [.int (nI x), .int (nI z)]) (rest := [.ref b1]) ⟨hx, hb, hml, hown, hts⟩ (kY1_block l x z) (va_cwS 2 hts gY1_swap_Y1_block rfl rfl rfl (by decide +kernel) ⟨Nat.le_of_ble_eq_true rfl, Nat.le_of_ble_eq_true rfl⟩) ⟨fun a U g mk q => q, fun U hU hW => ⟨rfl, trivial⟩⟩ rfl rfl hl.1 rfl (lv_room (Nat.le_of_ble_eq_true rfl)) dY1_swap_57 ⟨Nat.le_of_ble_eq_true rfl, Nat.le_of_ble_eq_true rfl⟩) (fun r57 w57 => ?_)
            subst w57
            refine lv_iload hx hb dY1_swap_60 (lv_at hl 6 rfl) ?_
            refine lv_iadd hx hb dY1_swap_62 ?_
            refine cf_top (nI_add _ _) ?_
            refine lv_aload_n hx hb dY1_swap_63 rfl (lv_at hl 1 rfl) ?_
            refine va_get (D := (dC, dI)) (ci := 1) (v := .ref b1) (C := RY1) (T := TY1) (N := 8) hx hb hts (by decide +kernel) hown hK hP 0 rfl rfl 5 (by decide) (hts (.fieldLink RY1 7 "CoefTurnsModel" "plane" "[I") (by decide +kernel)) (fun _ h9 => h9) rfl dY1_swap_64 ?_
            refine lv_iload_n hx hb dY1_swap_67 rfl (lv_at hl 4 rfl) ?_
            refine cf_top ebx ?_
            refine lv_iload hx hb dY1_swap_68 (lv_at hl 5 rfl) ?_
            refine cf_top ebz ?_
            refine vp_callSi (W.runS (As := [.int (nI x2), .int (nI z2)]) (rest := [.ref b1, .int (nI (64 * (8 * z + x) + p0)), .ref b1]) ⟨hx, hb, hml, hown, hts⟩ (kY1_block l x2 z2) (va_cwS 2 hts gY1_swap_Y1_block rfl rfl rfl (by decide +kernel) ⟨Nat.le_of_ble_eq_true rfl, Nat.le_of_ble_eq_true rfl⟩) ⟨fun a U g mk q => q, fun U hU hW => ⟨rfl, trivial⟩⟩ rfl rfl hl.1 rfl (lv_room (Nat.le_of_ble_eq_true rfl)) dY1_swap_70 ⟨Nat.le_of_ble_eq_true rfl, Nat.le_of_ble_eq_true rfl⟩) (fun r70 w70 => ?_)
            subst w70
            refine lv_iload hx hb dY1_swap_73 (lv_at hl 6 rfl) ?_
            refine lv_iadd hx hb dY1_swap_75 ?_
            refine cf_top (nI_add _ _) ?_
            refine cf_iald (D := (dC, dI)) hx hb hK hP 1 0 rfl rfl (k := 64 * (8 * z2 + x2) + p0) (by omega) (by decide) dY1_swap_76 ?_
            refine cf_iast (D := (dC, dI)) hx hb hK hP hD hS 1 0 rfl rfl (k := 64 * (8 * z + x) + p0) (by omega) (by decide) dY1_swap_77 (fun H locs hP hD hS => ?_)
            have hP : va_P (dC, dI) vwCm [(o, .inr (1, [.int (nI 0), .int (nI w), .int (nI h), .int (nI kw), .int (nI kh), .ref b1, .ref b2, .ref b3])), (b1, .inl (cC, 4096, .inl (upd fc (64 * (8 * z + x) + p0) (fc (64 * (8 * z2 + x2) + p0))))), (b2, .inl (cD, 4096, .inl g)), (b3, .inl (cE, 4096, .inl md))] H := hP
            have hD : va_D A [(o, .inr (1, [.int (nI 0), .int (nI w), .int (nI h), .int (nI kw), .int (nI kh), .ref b1, .ref b2, .ref b3])), (b1, .inl (cC, 4096, .inl (upd fc (64 * (8 * z + x) + p0) (fc (64 * (8 * z2 + x2) + p0))))), (b2, .inl (cD, 4096, .inl g)), (b3, .inl (cE, 4096, .inl md))] := hD
            refine lv_aload_n hx hb dY1_swap_78 rfl (lv_at hl 1 rfl) ?_
            refine va_get (D := (dC, dI)) (ci := 1) (v := .ref b1) (C := RY1) (T := TY1) (N := 8) hx hb hts (by decide +kernel) hown hK hP 0 rfl rfl 5 (by decide) (hts (.fieldLink RY1 7 "CoefTurnsModel" "plane" "[I") (by decide +kernel)) (fun _ h9 => h9) rfl dY1_swap_79 ?_
            refine lv_iload_n hx hb dY1_swap_82 rfl (lv_at hl 4 rfl) ?_
            refine cf_top ebx ?_
            refine lv_iload hx hb dY1_swap_83 (lv_at hl 5 rfl) ?_
            refine cf_top ebz ?_
            refine vp_callSi (W.runS (As := [.int (nI x2), .int (nI z2)]) (rest := [.ref b1]) ⟨hx, hb, hml, hown, hts⟩ (kY1_block l x2 z2) (va_cwS 2 hts gY1_swap_Y1_block rfl rfl rfl (by decide +kernel) ⟨Nat.le_of_ble_eq_true rfl, Nat.le_of_ble_eq_true rfl⟩) ⟨fun a U g mk q => q, fun U hU hW => ⟨rfl, trivial⟩⟩ rfl rfl hl.1 rfl (lv_room (Nat.le_of_ble_eq_true rfl)) dY1_swap_85 ⟨Nat.le_of_ble_eq_true rfl, Nat.le_of_ble_eq_true rfl⟩) (fun r85 w85 => ?_)
            subst w85
            refine lv_iload hx hb dY1_swap_88 (lv_at hl 6 rfl) ?_
            refine lv_iadd hx hb dY1_swap_90 ?_
            refine cf_top (nI_add _ _) ?_
            refine lv_iload hx hb dY1_swap_91 (lv_at hl 0 rfl) ?_
            refine cf_iast (D := (dC, dI)) hx hb hK hP hD hS 1 0 rfl rfl (k := 64 * (8 * z2 + x2) + p0) (by omega) (by decide) dY1_swap_93 (fun H locs hP hD hS => ?_)
            have hP : va_P (dC, dI) vwCm [(o, .inr (1, [.int (nI 0), .int (nI w), .int (nI h), .int (nI kw), .int (nI kh), .ref b1, .ref b2, .ref b3])), (b1, .inl (cC, 4096, .inl (upd (upd fc (64 * (8 * z + x) + p0) (fc (64 * (8 * z2 + x2) + p0))) (64 * (8 * z2 + x2) + p0) (fc (64 * (8 * z + x) + p0))))), (b2, .inl (cD, 4096, .inl g)), (b3, .inl (cE, 4096, .inl md))] H := hP
            have hD : va_D A [(o, .inr (1, [.int (nI 0), .int (nI w), .int (nI h), .int (nI kw), .int (nI kh), .ref b1, .ref b2, .ref b3])), (b1, .inl (cC, 4096, .inl (upd (upd fc (64 * (8 * z + x) + p0) (fc (64 * (8 * z2 + x2) + p0))) (64 * (8 * z2 + x2) + p0) (fc (64 * (8 * z + x) + p0))))), (b2, .inl (cD, 4096, .inl g)), (b3, .inl (cE, 4096, .inl md))] := hD
            refine lv_iinc (v := nI (p0 + 1)) (lv' := [(5, .int (nI (p0 + 1))), (6, .int (fc (64 * (8 * z + x) + p0))), (0, .ref o), (1, .int ax), (2, .int az), (3, .int bx), (4, .int bz)]) hx hb dY1_swap_94 hl (k := 6) rfl (by rw [← nI_add]; rfl) (by decide) rfl (fun ls hl => ?_)
            refine lv_goto (tgt := 29) hx hb dY1_swap_97 (by decide) ?_
            exact ih29 (p0 + 1) (upd (upd fc (64 * (8 * z + x) + p0) (fc (64 * (8 * z2 + x2) + p0))) (64 * (8 * z2 + x2) + p0) (fc (64 * (8 * z + x) + p0))) (by omega) (by omega) (cf_xb_s hI (by omega)) H locs hP hD hS ls (lv_sub hl [2, 3, 4, 5, 6, 0] rfl)
      exact lp29 (64 + 1) 0 f (by omega) (by omega) cf_xb_0 H locs hP hD hS ls (lv_sub hl [1, 2, 3, 4, 5, 0] rfl)
    · skip
      refine lv_iconst (v := nI 0) hx hb dY1_swap_24 (by decide +kernel) ?_
      have hP9 := hP.sub (ws' := [(o, .inr (1, [.int (nI 0), .int (nI w), .int (nI h), .int (nI kw), .int (nI kh), .ref b1, .ref b2, .ref b3])), (b1, .inl (cC, 4096, .inl f)), (b2, .inl (cD, 4096, .inl g)), (b3, .inl (cE, 4096, .inl md))]) [0, 1, 2, 3] rfl
      have hD9 := hD.sub (ws' := [(o, .inr (1, [.int (nI 0), .int (nI w), .int (nI h), .int (nI kw), .int (nI kh), .ref b1, .ref b2, .ref b3])), (b1, .inl (cC, 4096, .inl f)), (b2, .inl (cD, 4096, .inl g)), (b3, .inl (cE, 4096, .inl md))]) [0, 1, 2, 3] (by decide) rfl
      exact W.zret (ty := .boolean) hx hb hr rfl (fun t ht hW => ⟨⟨_, f, rfl, (by unfold cf_swr cf_swG; first | (rw [if_pos c11, if_pos c11]; exact ⟨rfl, cf_Ag.rf⟩) | (rw [if_neg c11, if_pos c21, if_neg c11, if_pos c21]; exact ⟨rfl, cf_Ag.rf⟩)), by rw [ht]; exact hP9, va_K.moved hW.alike hK, hD9⟩, hS.F ht⟩) hS.2.2 dY1_swap_25
