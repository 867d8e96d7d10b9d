set_option maxHeartbeats 4000000 in
set_option maxRecDepth 100000 in
/-- Y1_mirrorAll -/
theorem kY1_mirrorAll (l : Launch) (dC : Nat → ClassId) (dI : Nat → Nat → Nat) (sz : Nat) (o b1 b2 b3 : Nat) (cC cD cE : ClassId) (f g md : Nat → Int32) (th : Int32) (w h kw kh : Nat) (hw : w ≤ 8) (hh : h ≤ 8) (hw1 : 1 ≤ w) (hh1 : 1 ≤ h) : Met l yY1_mirrorAll wsY1_mirrorAll ({ frames := 1, cells := 0, slots := 0, locals := 23 }) (va_Pc [.ref o] (fun U => U.heap.size = sz ∧ va_P (dC, dI) vwCm [(o, .inr (1, [.int th, .int (nI w), .int (nI h), .int (nI kw), .int (nI kh), .ref b1, .ref b2, .ref b3])), (b1, .inl (cC, 4096, .inl f)), (b2, .inl (cD, 4096, .inl g)), (b3, .inl (cE, 4096, .inl md))] U.heap ∧ va_K (dC, dI) vwCm [(cC, .int), (cD, .int), (cE, .int)] U ∧ va_D (fun _ => True) [(o, .inr (1, [.int th, .int (nI w), .int (nI h), .int (nI kw), .int (nI kh), .ref b1, .ref b2, .ref b3])), (b1, .inl (cC, 4096, .inl f)), (b2, .inl (cD, 4096, .inl g)), (b3, .inl (cE, 4096, .inl md))])) (va_Qv (fun u : (Nat → Int32) × (Nat → Int32) => cf_Ag w h (cf_V u.1) (cf_mi w (cf_V f))) (fun (u : (Nat → Int32) × (Nat → Int32)) (t : State) => va_P (dC, dI) vwCm [(o, .inr (1, [.int th, .int (nI w), .int (nI h), .int (nI kw), .int (nI kh), .ref b1, .ref b2, .ref b3])), (b1, .inl (cC, 4096, .inl u.1)), (b2, .inl (cD, 4096, .inl g)), (b3, .inl (cE, 4096, .inl u.2))] t.heap ∧ va_K (dC, dI) vwCm [(cC, .int), (cD, .int), (cE, .int)] t ∧ va_D (va_A [(o, .inr (1, [.int th, .int (nI w), .int (nI h), .int (nI kw), .int (nI kh), .ref b1, .ref b2, .ref b3])), (b1, .inl (cC, 4096, .inl f)), (b2, .inl (cD, 4096, .inl g)), (b3, .inl (cE, 4096, .inl md))] sz) [(o, .inr (1, [.int th, .int (nI w), .int (nI h), .int (nI kw), .int (nI kh), .ref b1, .ref b2, .ref b3])), (b1, .inl (cC, 4096, .inl u.1)), (b2, .inl (cD, 4096, .inl g)), (b3, .inl (cE, 4096, .inl u.2))]) (va_A [(o, .inr (1, [.int th, .int (nI w), .int (nI h), .int (nI kw), .int (nI kh), .ref b1, .ref b2, .ref b3])), (b1, .inl (cC, 4096, .inl f)), (b2, .inl (cD, 4096, .inl g)), (b3, .inl (cE, 4096, .inl md))] sz)) 0 0 (va_A [(o, .inr (1, [.int th, .int (nI w), .int (nI h), .int (nI kw), .int (nI kh), .ref b1, .ref b2, .ref b3])), (b1, .inl (cC, 4096, .inl f)), (b2, .inl (cD, 4096, .inl g)), (b3, .inl (cE, 4096, .inl md))] sz) := by
  refine Met.ofW (cc := cY1_mirrorAll) (maxL := 5) (ret := none) (by decide) rfl ?_
  intro p e s m args below meth c s₁ B hml hv
  obtain ⟨rfl, hsz, hP, hK, hD0⟩ := hv
  have hx := B.exec
  have hb := B.bytes
  have hr := B.returns
  have hts := atoms_spec (ws := wsY1_mirrorAll) B.pre
  have hown : s.vm.findClass RY1 = some m.cls := findClass_of_methodNamed B.named
  have hlocks := B.notSynchronized
  subst hsz
  have hD := hD0.self (sz := s.heap.size)
  generalize hAe : va_A [(o, .inr (1, [.int th, .int (nI w), .int (nI h), .int (nI kw), .int (nI kh), .ref b1, .ref b2, .ref b3])), (b1, .inl (cC, 4096, .inl f)), (b2, .inl (cD, 4096, .inl g)), (b3, .inl (cE, 4096, .inl md))] s.heap.size = A at hD ⊢
  have hA : ∀ q : Nat, s.heap.size ≤ q → A q := fun q h => by rw [← hAe]; exact Or.inr h
  have hS : va_S A s.heap s.heap [] := va_S.rf
  have hP : va_P (dC, dI) vwCm [(o, .inr (1, [.int th, .int (nI w), .int (nI h), .int (nI kw), .int (nI kh), .ref b1, .ref b2, .ref b3])), (b1, .inl (cC, 4096, .inl f)), (b2, .inl (cD, 4096, .inl g)), (b3, .inl (cE, 4096, .inl md))] s.heap := hP
  have hl := lv_entry ([.ref o]) (n := 5) (Nat.le_of_ble_eq_true rfl)
  rw [lg_entry_eq]
  generalize (lg_sl ([.ref o]) ++ List.replicate (5 - (lg_sl ([.ref o])).length) Slot.unset).toArray = ls at hl ⊢
  have hl : lv_has ls 5 [(0, .ref o)] := hl
  refine lv_iconst (v := nI 0) hx hb dY1_mirrorAll_0 (by decide +kernel) ?_
  refine lv_istore_n (lv' := [(1, .int (nI 0)), (0, .ref o)]) hx hb dY1_mirrorAll_1 rfl hl (by decide) rfl (fun ls hl => ?_)
  have lp2 : ∀ (n2 : Nat) (y0 : Nat) (m0 : Nat → Int32), y0 ≤ h → h < y0 + n2 → cf_dn w y0 0 0 m0 (cf_mi w (cf_V f)) → ∀ (H : Heap) (locs : List Loc), va_P (dC, dI) vwCm [(o, .inr (1, [.int th, .int (nI w), .int (nI h), .int (nI kw), .int (nI kh), .ref b1, .ref b2, .ref b3])), (b1, .inl (cC, 4096, .inl f)), (b2, .inl (cD, 4096, .inl g)), (b3, .inl (cE, 4096, .inl m0))] H → va_D A [(o, .inr (1, [.int th, .int (nI w), .int (nI h), .int (nI kw), .int (nI kh), .ref b1, .ref b2, .ref b3])), (b1, .inl (cC, 4096, .inl f)), (b2, .inl (cD, 4096, .inl g)), (b3, .inl (cE, 4096, .inl m0))] → va_S A s.heap H locs → ∀ (ls : Array Slot), lv_has ls 5 [(0, .ref o), (1, .int (nI y0))] → W p l e (headSpec wsY1_mirrorAll ({ frames := 1, cells := 0, slots := 0, locals := 23 })).room s m ([.ref o] : List Value).toArray below meth c H locs 0 0 (MQ below (va_Qv (fun u : (Nat → Int32) × (Nat → Int32) => cf_Ag w h (cf_V u.1) (cf_mi w (cf_V f))) (fun (u : (Nat → Int32) × (Nat → Int32)) (t : State) => va_P (dC, dI) vwCm [(o, .inr (1, [.int th, .int (nI w), .int (nI h), .int (nI kw), .int (nI kh), .ref b1, .ref b2, .ref b3])), (b1, .inl (cC, 4096, .inl u.1)), (b2, .inl (cD, 4096, .inl g)), (b3, .inl (cE, 4096, .inl u.2))] t.heap ∧ va_K (dC, dI) vwCm [(cC, .int), (cD, .int), (cE, .int)] t ∧ va_D A [(o, .inr (1, [.int th, .int (nI w), .int (nI h), .int (nI kw), .int (nI kh), .ref b1, .ref b2, .ref b3])), (b1, .inl (cC, 4096, .inl u.1)), (b2, .inl (cD, 4096, .inl g)), (b3, .inl (cE, 4096, .inl u.2))]) A) ([.ref o] : List Value).toArray s 0 0 A) (F0 m 2 ls []) := by
    intro n2
    induction n2 with
    | zero => intro y0 m0 h1 h2; exact absurd h2 (by omega)
    | succ n2 ih2 =>
      intro y0 m0 hk2 hn2 hI H locs hP hD hS ls hl
      refine lv_iload_n hx hb dY1_mirrorAll_2 rfl (lv_at hl 1 rfl) ?_
      refine lv_aload_n hx hb dY1_mirrorAll_3 rfl (lv_at hl 0 rfl) ?_
      refine va_get (D := (dC, dI)) (ci := 1) (v := .int (nI h)) (C := RY1) (T := TY1) (N := 8) hx hb hts (by decide +kernel) hown hK hP 0 rfl rfl 2 (by decide) (hts (.fieldLink RY1 27 "CoefTurnsModel" "h" "I") (by decide +kernel)) (fun _ h9 => h9) rfl dY1_mirrorAll_4 ?_
      refine lv_icmp_ge (tgt := 94) hx hb dY1_mirrorAll_7 (by decide) (fun c7 => ?_) (fun c7 => ?_)
      · skip
        have c7 := (nI_leI (a := h) (b := y0) (by omega) (by omega)).mp c7
        refine lv_aload_n hx hb dY1_mirrorAll_94 rfl (lv_at hl 0 rfl) ?_
        refine lv_aload_n hx hb dY1_mirrorAll_95 rfl (lv_at hl 0 rfl) ?_
        refine va_get (D := (dC, dI)) (ci := 1) (v := .int (nI w)) (C := RY1) (T := TY1) (N := 8) hx hb hts (by decide +kernel) hown hK hP 0 rfl rfl 1 (by decide) (hts (.fieldLink RY1 23 "CoefTurnsModel" "w" "I") (by decide +kernel)) (fun _ h9 => h9) rfl dY1_mirrorAll_96 ?_
        refine lv_aload_n hx hb dY1_mirrorAll_99 rfl (lv_at hl 0 rfl) ?_
        refine va_get (D := (dC, dI)) (ci := 1) (v := .int (nI h)) (C := RY1) (T := TY1) (N := 8) hx hb hts (by decide +kernel) hown hK hP 0 rfl rfl 2 (by decide) (hts (.fieldLink RY1 27 "CoefTurnsModel" "h" "I") (by decide +kernel)) (fun _ h9 => h9) rfl dY1_mirrorAll_100 ?_
        have hPc := hP.sub (ws' := [(o, .inr (1, [.int th, .int (nI w), .int (nI h), .int (nI kw), .int (nI kh), .ref b1, .ref b2, .ref b3])), (b1, .inl (cC, 4096, .inl f)), (b2, .inl (cD, 4096, .inl g)), (b3, .inl (cE, 4096, .inl m0))]) [0, 1, 2, 3] rfl
        have hKc := hK.sub (tys' := [(cC, .int), (cD, .int), (cE, .int)]) [0, 1, 2] rfl
        have hDc := hD.sub (ws' := [(o, .inr (1, [.int th, .int (nI w), .int (nI h), .int (nI kw), .int (nI kh), .ref b1, .ref b2, .ref b3])), (b1, .inl (cC, 4096, .inl f)), (b2, .inl (cD, 4096, .inl g)), (b3, .inl (cE, 4096, .inl m0))]) [0, 1, 2, 3] (by decide) rfl
        have hFc := va_free (wc := [(o, .inr (1, [.int th, .int (nI w), .int (nI h), .int (nI kw), .int (nI kh), .ref b1, .ref b2, .ref b3])), (b1, .inl (cC, 4096, .inl f)), (b2, .inl (cD, 4096, .inl g)), (b3, .inl (cE, 4096, .inl m0))]) hD hS hA [0, 1, 2, 3] rfl
        refine va_callv (va_runV (As := [.int (nI w), .int (nI h)]) (rest := []) ⟨hx, hb, hml, hown, hts⟩ (kY1_become l dC dI H.size o b1 b2 b3 cC cD cE f g m0 th w h kw kh w h) (cwV 2 hts gY1_mirrorAll_Y1_become rfl rfl rfl (by decide +kernel) ⟨Nat.le_of_ble_eq_true rfl, Nat.le_of_ble_eq_true rfl⟩) ⟨fun a U g mk q => by obtain ⟨q0, q1, qP, qK, qD⟩ := q; exact ⟨q0, q1, qP, va_K.moved (u := U) (U := U.calling g mk a) (Vm.Alike.refl U.vm) qK, qD⟩, va_recv hKc hPc (ci := 1) (q0 := 0) rfl rfl, fun U hU hW => ⟨rfl, by rw [hU], by rw [hU]; exact hPc, va_K.moved hW.alike hKc, hDc.weaken (fun _ _ _ _ => trivial)⟩⟩ rfl rfl hl.1 rfl (lv_room (Nat.le_of_ble_eq_true rfl)) dY1_mirrorAll_103 ⟨Nat.le_of_ble_eq_true rfl, Nat.le_of_ble_eq_true rfl⟩) hS (fun q _ h => hFc q h) hFc (fun u103 t H1 locs ht hvm w103 hB hz1 hk1 hS => ?_)
        obtain ⟨hP1, -, hD1⟩ := hB
        rw [ht] at hP1
        try dsimp only at w103
        obtain ⟨hP, hD⟩ := va_join (wr := []) (w1 := [(o, .inr (1, [.int th, .int (nI w), .int (nI h), .int (nI kw), .int (nI kh), .ref b1, .ref b2, .ref b3])), (b1, .inl (cC, 4096, .inl u103)), (b2, .inl (cD, 4096, .inl g)), (b3, .inl (cE, 4096, .inl m0))]) hP hD [0, 1, 2, 3] [] rfl rfl (by decide) (by decide) hk1 hFc hP1 hD1
        generalize H1 = H at hP hS ⊢
        have hP : va_P (dC, dI) vwCm [(o, .inr (1, [.int th, .int (nI w), .int (nI h), .int (nI kw), .int (nI kh), .ref b1, .ref b2, .ref b3])), (b1, .inl (cC, 4096, .inl u103)), (b2, .inl (cD, 4096, .inl g)), (b3, .inl (cE, 4096, .inl m0))] H := hP
        have hD : va_D A [(o, .inr (1, [.int th, .int (nI w), .int (nI h), .int (nI kw), .int (nI kh), .ref b1, .ref b2, .ref b3])), (b1, .inl (cC, 4096, .inl u103)), (b2, .inl (cD, 4096, .inl g)), (b3, .inl (cE, 4096, .inl m0))] := hD
        have hP9 := hP.sub (ws' := [(o, .inr (1, [.int th, .int (nI w), .int (nI h), .int (nI kw), .int (nI kh), .ref b1, .ref b2, .ref b3])), (b1, .inl (cC, 4096, .inl u103)), (b2, .inl (cD, 4096, .inl g)), (b3, .inl (cE, 4096, .inl m0))]) [0, 1, 2, 3] rfl
        have hD9 := hD.sub (ws' := [(o, .inr (1, [.int th, .int (nI w), .int (nI h), .int (nI kw), .int (nI kh), .ref b1, .ref b2, .ref b3])), (b1, .inl (cC, 4096, .inl u103)), (b2, .inl (cD, 4096, .inl g)), (b3, .inl (cE, 4096, .inl m0))]) [0, 1, 2, 3] (by decide) rfl
        exact W.vret hx hb hr (fun t ht hW => ⟨⟨(u103, m0), rfl, (by have e : y0 = h := (by omega); rw [e] at hI; exact (cf_cp_ag w103 hw hh).tr (cf_dn_e hI)), by rw [ht]; exact hP9, va_K.moved hW.alike hK, hD9⟩, hS.F ht⟩) hS.2.2 dY1_mirrorAll_106
      · skip
        have c7 := mt (nI_leI (a := h) (b := y0) (by omega) (by omega)).mpr c7
        refine lv_iconst (v := nI 0) hx hb dY1_mirrorAll_10 (by decide +kernel) ?_
        refine lv_istore_n (lv' := [(2, .int (nI 0)), (0, .ref o), (1, .int (nI y0))]) hx hb dY1_mirrorAll_11 rfl hl (by decide) rfl (fun ls hl => ?_)
        have lp12 : ∀ (n12 : Nat) (x0 : Nat) (m1 : Nat → Int32), x0 ≤ w → w < x0 + n12 → cf_dn w y0 x0 0 m1 (cf_mi w (cf_V f)) → ∀ (H : Heap) (locs : List Loc), va_P (dC, dI) vwCm [(o, .inr (1, [.int th, .int (nI w), .int (nI h), .int (nI kw), .int (nI kh), .ref b1, .ref b2, .ref b3])), (b1, .inl (cC, 4096, .inl f)), (b2, .inl (cD, 4096, .inl g)), (b3, .inl (cE, 4096, .inl m1))] H → va_D A [(o, .inr (1, [.int th, .int (nI w), .int (nI h), .int (nI kw), .int (nI kh), .ref b1, .ref b2, .ref b3])), (b1, .inl (cC, 4096, .inl f)), (b2, .inl (cD, 4096, .inl g)), (b3, .inl (cE, 4096, .inl m1))] → va_S A s.heap H locs → ∀ (ls : Array Slot), lv_has ls 5 [(0, .ref o), (1, .int (nI y0)), (2, .int (nI x0))] → W p l e (headSpec wsY1_mirrorAll ({ frames := 1, cells := 0, slots := 0, locals := 23 })).room s m ([.ref o] : List Value).toArray below meth c H locs 0 0 (MQ below (va_Qv (fun u : (Nat → Int32) × (Nat → Int32) => cf_Ag w h (cf_V u.1) (cf_mi w (cf_V f))) (fun (u : (Nat → Int32) × (Nat → Int32)) (t : State) => va_P (dC, dI) vwCm [(o, .inr (1, [.int th, .int (nI w), .int (nI h), .int (nI kw), .int (nI kh), .ref b1, .ref b2, .ref b3])), (b1, .inl (cC, 4096, .inl u.1)), (b2, .inl (cD, 4096, .inl g)), (b3, .inl (cE, 4096, .inl u.2))] t.heap ∧ va_K (dC, dI) vwCm [(cC, .int), (cD, .int), (cE, .int)] t ∧ va_D A [(o, .inr (1, [.int th, .int (nI w), .int (nI h), .int (nI kw), .int (nI kh), .ref b1, .ref b2, .ref b3])), (b1, .inl (cC, 4096, .inl u.1)), (b2, .inl (cD, 4096, .inl g)), (b3, .inl (cE, 4096, .inl u.2))]) A) ([.ref o] : List Value).toArray s 0 0 A) (F0 m 12 ls []) := by
          intro n12
          induction n12 with
          | zero => intro x0 m1 h1 h2; exact absurd h2 (by omega)
          | succ n12 ih12 =>
            intro x0 m1 hk12 hn12 hI1 H locs hP hD hS ls hl
            refine lv_iload_n hx hb dY1_mirrorAll_12 rfl (lv_at hl 2 rfl) ?_
            refine lv_aload_n hx hb dY1_mirrorAll_13 rfl (lv_at hl 0 rfl) ?_
            refine va_get (D := (dC, dI)) (ci := 1) (v := .int (nI w)) (C := RY1) (T := TY1) (N := 8) hx hb hts (by decide +kernel) hown hK hP 0 rfl rfl 1 (by decide) (hts (.fieldLink RY1 23 "CoefTurnsModel" "w" "I") (by decide +kernel)) (fun _ h9 => h9) rfl dY1_mirrorAll_14 ?_
            refine lv_icmp_ge (tgt := 88) hx hb dY1_mirrorAll_17 (by decide) (fun c17 => ?_) (fun c17 => ?_)
            · skip
              have c17 := (nI_leI (a := w) (b := x0) (by omega) (by omega)).mp c17
              refine lv_iinc (v := nI (y0 + 1)) (lv' := [(1, .int (nI (y0 + 1))), (0, .ref o), (2, .int (nI x0))]) hx hb dY1_mirrorAll_88 hl (k := 1) rfl (by rw [← nI_add]; rfl) (by decide) rfl (fun ls hl => ?_)
              refine lv_goto (tgt := 2) hx hb dY1_mirrorAll_91 (by decide) ?_
              exact ih2 (y0 + 1) m1 (by omega) (by omega) (cf_dn_r hI1 (by omega)) H locs hP hD hS ls (lv_sub hl [1, 0] rfl)
            · skip
              have c17 := mt (nI_leI (a := w) (b := x0) (by omega) (by omega)).mpr c17
              refine lv_iconst (v := nI 0) hx hb dY1_mirrorAll_20 (by decide +kernel) ?_
              refine lv_istore_n (lv' := [(3, .int (nI 0)), (0, .ref o), (1, .int (nI y0)), (2, .int (nI x0))]) hx hb dY1_mirrorAll_21 rfl hl (by decide) rfl (fun ls hl => ?_)
              have lp22 : ∀ (n22 : Nat) (p0 : Nat) (m2 : Nat → Int32), p0 ≤ 64 → 64 < p0 + n22 → cf_dn w y0 x0 p0 m2 (cf_mi w (cf_V f)) → ∀ (H : Heap) (locs : List Loc), va_P (dC, dI) vwCm [(o, .inr (1, [.int th, .int (nI w), .int (nI h), .int (nI kw), .int (nI kh), .ref b1, .ref b2, .ref b3])), (b1, .inl (cC, 4096, .inl f)), (b2, .inl (cD, 4096, .inl g)), (b3, .inl (cE, 4096, .inl m2))] H → va_D A [(o, .inr (1, [.int th, .int (nI w), .int (nI h), .int (nI kw), .int (nI kh), .ref b1, .ref b2, .ref b3])), (b1, .inl (cC, 4096, .inl f)), (b2, .inl (cD, 4096, .inl g)), (b3, .inl (cE, 4096, .inl m2))] → va_S A s.heap H locs → ∀ (ls : Array Slot), lv_has ls 5 [(0, .ref o), (1, .int (nI y0)), (2, .int (nI x0)), (3, .int (nI p0))] → W p l e (headSpec wsY1_mirrorAll ({ frames := 1, cells := 0, slots := 0, locals := 23 })).room s m ([.ref o] : List Value).toArray below meth c H locs 0 0 (MQ below (va_Qv (fun u : (Nat → Int32) × (Nat → Int32) => cf_Ag w h (cf_V u.1) (cf_mi w (cf_V f))) (fun (u : (Nat → Int32) × (Nat → Int32)) (t : State) => va_P (dC, dI) vwCm [(o, .inr (1, [.int th, .int (nI w), .int (nI h), .int (nI kw), .int (nI kh), .ref b1, .ref b2, .ref b3])), (b1, .inl (cC, 4096, .inl u.1)), (b2, .inl (cD, 4096, .inl g)), (b3, .inl (cE, 4096, .inl u.2))] t.heap ∧ va_K (dC, dI) vwCm [(cC, .int), (cD, .int), (cE, .int)] t ∧ va_D A [(o, .inr (1, [.int th, .int (nI w), .int (nI h), .int (nI kw), .int (nI kh), .ref b1, .ref b2, .ref b3])), (b1, .inl (cC, 4096, .inl u.1)), (b2, .inl (cD, 4096, .inl g)), (b3, .inl (cE, 4096, .inl u.2))]) A) ([.ref o] : List Value).toArray s 0 0 A) (F0 m 22 ls []) := by
                intro n22
                induction n22 with
                | zero => intro p0 m2 h1 h2; exact absurd h2 (by omega)
                | succ n22 ih22 =>
                  intro p0 m2 hk22 hn22 hI2 H locs hP hD hS ls hl
                  refine lv_iload_n hx hb dY1_mirrorAll_22 rfl (lv_at hl 3 rfl) ?_
                  refine lv_bipush (v := nI 64) hx hb dY1_mirrorAll_23 (by decide +kernel) ?_
                  refine lv_icmp_ge (tgt := 82) hx hb dY1_mirrorAll_25 (by decide) (fun c25 => ?_) (fun c25 => ?_)
                  · skip
                    have c25 := (nI_leI (a := 64) (b := p0) (by omega) (by omega)).mp c25
                    refine lv_iinc (v := nI (x0 + 1)) (lv' := [(2, .int (nI (x0 + 1))), (0, .ref o), (1, .int (nI y0)), (3, .int (nI p0))]) hx hb dY1_mirrorAll_82 hl (k := 2) rfl (by rw [← nI_add]; rfl) (by decide) rfl (fun ls hl => ?_)
                    refine lv_goto (tgt := 12) hx hb dY1_mirrorAll_85 (by decide) ?_
                    exact ih12 (x0 + 1) m2 (by omega) (by omega) (cf_dn_b hI2 (by omega)) H locs hP hD hS ls (lv_sub hl [1, 2, 0] rfl)
                  · skip
                    have c25 := mt (nI_leI (a := 64) (b := p0) (by omega) (by omega)).mpr c25
                    refine lv_aload_n hx hb dY1_mirrorAll_28 rfl (lv_at hl 0 rfl) ?_
                    refine va_get (D := (dC, dI)) (ci := 1) (v := .ref b1) (C := RY1) (T := TY1) (N := 8) hx hb hts (by decide +kernel) hown hK hP 0 rfl rfl 5 (by decide) (hts (.fieldLink RY1 7 "CoefTurnsModel" "plane" "[I") (by decide +kernel)) (fun _ h9 => h9) rfl dY1_mirrorAll_29 ?_
                    refine lv_aload_n hx hb dY1_mirrorAll_32 rfl (lv_at hl 0 rfl) ?_
                    refine va_get (D := (dC, dI)) (ci := 1) (v := .int (nI w)) (C := RY1) (T := TY1) (N := 8) hx hb hts (by decide +kernel) hown hK hP 0 rfl rfl 1 (by decide) (hts (.fieldLink RY1 23 "CoefTurnsModel" "w" "I") (by decide +kernel)) (fun _ h9 => h9) rfl dY1_mirrorAll_33 ?_
                    refine lv_iconst (v := nI 1) hx hb dY1_mirrorAll_36 (by decide +kernel) ?_
                    refine lv_isub hx hb dY1_mirrorAll_37 ?_
                    refine cf_top (pk_sub (by omega)) ?_
                    refine lv_iload_n hx hb dY1_mirrorAll_38 rfl (lv_at hl 2 rfl) ?_
                    refine lv_isub hx hb dY1_mirrorAll_39 ?_
                    refine cf_top (pk_sub (by omega)) ?_
                    refine lv_iload_n hx hb dY1_mirrorAll_40 rfl (lv_at hl 1 rfl) ?_
                    refine vp_callSi (W.runS (As := [.int (nI ((w - 1) - x0)), .int (nI y0)]) (rest := [.ref b1]) ⟨hx, hb, hml, hown, hts⟩ (kY1_block l ((w - 1) - x0) y0) (va_cwS 2 hts gY1_mirrorAll_Y1_block rfl rfl rfl (by decide +kernel) ⟨Nat.le_of_ble_eq_true rfl, Nat.le_of_ble_eq_true rfl⟩) ⟨fun a U g mk q => q, fun U hU hW => ⟨rfl, trivial⟩⟩ rfl rfl hl.1 rfl (lv_room (Nat.le_of_ble_eq_true rfl)) dY1_mirrorAll_41 ⟨Nat.le_of_ble_eq_true rfl, Nat.le_of_ble_eq_true rfl⟩) (fun r41 w41 => ?_)
                    subst w41
                    refine lv_iload_n hx hb dY1_mirrorAll_44 rfl (lv_at hl 3 rfl) ?_
                    refine lv_iadd hx hb dY1_mirrorAll_45 ?_
                    refine cf_top (nI_add _ _) ?_
                    refine cf_iald (D := (dC, dI)) hx hb hK hP 1 0 rfl rfl (k := 64 * (8 * y0 + ((w - 1) - x0)) + p0) (by omega) (by decide) dY1_mirrorAll_46 ?_
                    refine lv_istore (lv' := [(4, .int (f (64 * (8 * y0 + ((w - 1) - x0)) + p0))), (0, .ref o), (1, .int (nI y0)), (2, .int (nI x0)), (3, .int (nI p0))]) hx hb dY1_mirrorAll_47 hl (by decide) rfl (fun ls hl => ?_)
                    refine lv_aload_n hx hb dY1_mirrorAll_49 rfl (lv_at hl 1 rfl) ?_
                    refine va_get (D := (dC, dI)) (ci := 1) (v := .ref b3) (C := RY1) (T := TY1) (N := 8) hx hb hts (by decide +kernel) hown hK hP 0 rfl rfl 7 (by decide) (hts (.fieldLink RY1 16 "CoefTurnsModel" "moved" "[I") (by decide +kernel)) (fun _ h9 => h9) rfl dY1_mirrorAll_50 ?_
                    refine lv_iload_n hx hb dY1_mirrorAll_53 rfl (lv_at hl 3 rfl) ?_
                    refine lv_iload_n hx hb dY1_mirrorAll_54 rfl (lv_at hl 2 rfl) ?_
                    refine vp_callSi (W.runS (As := [.int (nI x0), .int (nI y0)]) (rest := [.ref b3]) ⟨hx, hb, hml, hown, hts⟩ (kY1_block l x0 y0) (va_cwS 2 hts gY1_mirrorAll_Y1_block rfl rfl rfl (by decide +kernel) ⟨Nat.le_of_ble_eq_true rfl, Nat.le_of_ble_eq_true rfl⟩) ⟨fun a U g mk q => q, fun U hU hW => ⟨rfl, trivial⟩⟩ rfl rfl hl.1 rfl (lv_room (Nat.le_of_ble_eq_true rfl)) dY1_mirrorAll_55 ⟨Nat.le_of_ble_eq_true rfl, Nat.le_of_ble_eq_true rfl⟩) (fun r55 w55 => ?_)
                    subst w55
                    refine lv_iload_n hx hb dY1_mirrorAll_58 rfl (lv_at hl 4 rfl) ?_
                    refine lv_iadd hx hb dY1_mirrorAll_59 ?_
                    refine cf_top (nI_add _ _) ?_
                    refine lv_iload_n hx hb dY1_mirrorAll_60 rfl (lv_at hl 4 rfl) ?_
                    refine lv_iconst (v := nI 2) hx hb dY1_mirrorAll_61 (by decide +kernel) ?_
                    refine lv_irem hx hb dY1_mirrorAll_62 (nI_ne0 (by omega) (by omega)) ?_
                    refine cf_top (pk_rem (by omega) (by omega) (by omega)) ?_
                    refine lv_iconst (v := nI 1) hx hb dY1_mirrorAll_63 (by decide +kernel) ?_
                    refine lv_icmp_ne (tgt := 73) hx hb dY1_mirrorAll_64 (by decide) (fun c64 => ?_) (fun c64 => ?_)
                    · skip
                      have c64 := mt (nI_eq (a := p0 % 2) (b := 1) (by omega) (by omega)).mpr c64
                      refine lv_iload hx hb dY1_mirrorAll_73 (lv_at hl 0 rfl) ?_
                      refine cf_iast (D := (dC, dI)) hx hb hK hP hD hS 3 2 rfl rfl (k := 64 * (8 * y0 + x0) + p0) (by omega) (by decide) dY1_mirrorAll_75 (fun H locs hP hD hS => ?_)
                      have hP : va_P (dC, dI) vwCm [(o, .inr (1, [.int th, .int (nI w), .int (nI h), .int (nI kw), .int (nI kh), .ref b1, .ref b2, .ref b3])), (b1, .inl (cC, 4096, .inl f)), (b2, .inl (cD, 4096, .inl g)), (b3, .inl (cE, 4096, .inl (upd m2 (64 * (8 * y0 + x0) + p0) (f (64 * (8 * y0 + ((w - 1) - x0)) + p0)))))] H := hP
                      have hD : va_D A [(o, .inr (1, [.int th, .int (nI w), .int (nI h), .int (nI kw), .int (nI kh), .ref b1, .ref b2, .ref b3])), (b1, .inl (cC, 4096, .inl f)), (b2, .inl (cD, 4096, .inl g)), (b3, .inl (cE, 4096, .inl (upd m2 (64 * (8 * y0 + x0) + p0) (f (64 * (8 * y0 + ((w - 1) - x0)) + p0)))))] := hD
                      refine lv_iinc (v := nI (p0 + 1)) (lv' := [(3, .int (nI (p0 + 1))), (4, .int (f (64 * (8 * y0 + ((w - 1) - x0)) + p0))), (0, .ref o), (1, .int (nI y0)), (2, .int (nI x0))]) hx hb dY1_mirrorAll_76 hl (k := 4) rfl (by rw [← nI_add]; rfl) (by decide) rfl (fun ls hl => ?_)
                      refine lv_goto (tgt := 22) hx hb dY1_mirrorAll_79 (by decide) ?_
                      exact ih22 (p0 + 1) (upd m2 (64 * (8 * y0 + x0) + p0) (f (64 * (8 * y0 + ((w - 1) - x0)) + p0))) (by omega) (by omega) (cf_dn_s hI2 hw (by omega) (by omega) (by unfold cf_mi; first | (rw [if_pos c64]; rfl) | (rw [if_neg c64]; rfl))) H locs hP hD hS ls (lv_sub hl [2, 3, 4, 0] rfl)
                    · skip
                      have c64 := (nI_eq (a := p0 % 2) (b := 1) (by omega) (by omega)).mp c64
                      refine lv_iload hx hb dY1_mirrorAll_67 (lv_at hl 0 rfl) ?_
                      refine lv_ineg hx hb dY1_mirrorAll_69 ?_
                      refine lv_goto (tgt := 75) hx hb dY1_mirrorAll_70 (by decide) ?_
                      refine cf_iast (D := (dC, dI)) hx hb hK hP hD hS 3 2 rfl rfl (k := 64 * (8 * y0 + x0) + p0) (by omega) (by decide) dY1_mirrorAll_75 (fun H locs hP hD hS => ?_)
                      have hP : va_P (dC, dI) vwCm [(o, .inr (1, [.int th, .int (nI w), .int (nI h), .int (nI kw), .int (nI kh), .ref b1, .ref b2, .ref b3])), (b1, .inl (cC, 4096, .inl f)), (b2, .inl (cD, 4096, .inl g)), (b3, .inl (cE, 4096, .inl (upd m2 (64 * (8 * y0 + x0) + p0) (-(f (64 * (8 * y0 + ((w - 1) - x0)) + p0))))))] H := hP
                      have hD : va_D A [(o, .inr (1, [.int th, .int (nI w), .int (nI h), .int (nI kw), .int (nI kh), .ref b1, .ref b2, .ref b3])), (b1, .inl (cC, 4096, .inl f)), (b2, .inl (cD, 4096, .inl g)), (b3, .inl (cE, 4096, .inl (upd m2 (64 * (8 * y0 + x0) + p0) (-(f (64 * (8 * y0 + ((w - 1) - x0)) + p0))))))] := hD
                      refine lv_iinc (v := nI (p0 + 1)) (lv' := [(3, .int (nI (p0 + 1))), (4, .int (f (64 * (8 * y0 + ((w - 1) - x0)) + p0))), (0, .ref o), (1, .int (nI y0)), (2, .int (nI x0))]) hx hb dY1_mirrorAll_76 hl (k := 4) rfl (by rw [← nI_add]; rfl) (by decide) rfl (fun ls hl => ?_)
                      refine lv_goto (tgt := 22) hx hb dY1_mirrorAll_79 (by decide) ?_
                      exact ih22 (p0 + 1) (upd m2 (64 * (8 * y0 + x0) + p0) (-(f (64 * (8 * y0 + ((w - 1) - x0)) + p0)))) (by omega) (by omega) (cf_dn_s hI2 hw (by omega) (by omega) (by unfold cf_mi; first | (rw [if_pos c64]; rfl) | (rw [if_neg c64]; rfl))) H locs hP hD hS ls (lv_sub hl [2, 3, 4, 0] rfl)
              exact lp22 (64 + 1) 0 m1 (by omega) (by omega) hI1 H locs hP hD hS ls (lv_sub hl [1, 2, 3, 0] rfl)
        exact lp12 (w + 1) 0 m0 (by omega) (by omega) hI H locs hP hD hS ls (lv_sub hl [1, 2, 0] rfl)
  exact lp2 (h + 1) 0 md (by omega) (by omega) cf_dn_0 s.heap [] hP hD hS ls (lv_sub hl [1, 0] rfl)
set_option maxHeartbeats 4000000 in
set_option maxRecDepth 100000 in
/-- Y1_flipAll -/
theorem kY1_flipAll (l : Launch) (dC : Nat → ClassId) (dI : Nat → Nat → Nat) (sz : Nat) (o b1 b2 b3 : Nat) (cC cD cE : ClassId) (f g md : Nat → Int32) (th : Int32) (w h kw kh : Nat) (hw : w ≤ 8) (hh : h ≤ 8) (hw1 : 1 ≤ w) (hh1 : 1 ≤ h) : Met l yY1_flipAll wsY1_flipAll ({ frames := 1, cells := 0, slots := 0, locals := 23 }) (va_Pc [.ref o] (fun U => U.heap.size = sz ∧ va_P (dC, dI) vwCm [(o, .inr (1, [.int th, .int (nI w), .int (nI h), .int (nI kw), .int (nI kh), .ref b1, .ref b2, .ref b3])), (b1, .inl (cC, 4096, .inl f)), (b2, .inl (cD, 4096, .inl g)), (b3, .inl (cE, 4096, .inl md))] U.heap ∧ va_K (dC, dI) vwCm [(cC, .int), (cD, .int), (cE, .int)] U ∧ va_D (fun _ => True) [(o, .inr (1, [.int th, .int (nI w), .int (nI h), .int (nI kw), .int (nI kh), .ref b1, .ref b2, .ref b3])), (b1, .inl (cC, 4096, .inl f)), (b2, .inl (cD, 4096, .inl g)), (b3, .inl (cE, 4096, .inl md))])) (va_Qv (fun u : (Nat → Int32) × (Nat → Int32) => cf_Ag w h (cf_V u.1) (cf_fl h (cf_V f))) (fun (u : (Nat → Int32) × (Nat → Int32)) (t : State) => va_P (dC, dI) vwCm [(o, .inr (1, [.int th, .int (nI w), .int (nI h), .int (nI kw), .int (nI kh), .ref b1, .ref b2, .ref b3])), (b1, .inl (cC, 4096, .inl u.1)), (b2, .inl (cD, 4096, .inl g)), (b3, .inl (cE, 4096, .inl u.2))] t.heap ∧ va_K (dC, dI) vwCm [(cC, .int), (cD, .int), (cE, .int)] t ∧ va_D (va_A [(o, .inr (1, [.int th, .int (nI w), .int (nI h), .int (nI kw), .int (nI kh), .ref b1, .ref b2, .ref b3])), (b1, .inl (cC, 4096, .inl f)), (b2, .inl (cD, 4096, .inl g)), (b3, .inl (cE, 4096, .inl md))] sz) [(o, .inr (1, [.int th, .int (nI w), .int (nI h), .int (nI kw), .int (nI kh), .ref b1, .ref b2, .ref b3])), (b1, .inl (cC, 4096, .inl u.1)), (b2, .inl (cD, 4096, .inl g)), (b3, .inl (cE, 4096, .inl u.2))]) (va_A [(o, .inr (1, [.int th, .int (nI w), .int (nI h), .int (nI kw), .int (nI kh), .ref b1, .ref b2, .ref b3])), (b1, .inl (cC, 4096, .inl f)), (b2, .inl (cD, 4096, .inl g)), (b3, .inl (cE, 4096, .inl md))] sz)) 0 0 (va_A [(o, .inr (1, [.int th, .int (nI w), .int (nI h), .int (nI kw), .int (nI kh), .ref b1, .ref b2, .ref b3])), (b1, .inl (cC, 4096, .inl f)), (b2, .inl (cD, 4096, .inl g)), (b3, .inl (cE, 4096, .inl md))] sz) := by
  refine Met.ofW (cc := cY1_flipAll) (maxL := 5) (ret := none) (by decide) rfl ?_
  intro p e s m args below meth c s₁ B hml hv
  obtain ⟨rfl, hsz, hP, hK, hD0⟩ := hv
  have hx := B.exec
  have hb := B.bytes
  have hr := B.returns
  have hts := atoms_spec (ws := wsY1_flipAll) B.pre
  have hown : s.vm.findClass RY1 = some m.cls := findClass_of_methodNamed B.named
  have hlocks := B.notSynchronized
  subst hsz
  have hD := hD0.self (sz := s.heap.size)
  generalize hAe : va_A [(o, .inr (1, [.int th, .int (nI w), .int (nI h), .int (nI kw), .int (nI kh), .ref b1, .ref b2, .ref b3])), (b1, .inl (cC, 4096, .inl f)), (b2, .inl (cD, 4096, .inl g)), (b3, .inl (cE, 4096, .inl md))] s.heap.size = A at hD ⊢
  have hA : ∀ q : Nat, s.heap.size ≤ q → A q := fun q h => by rw [← hAe]; exact Or.inr h
  have hS : va_S A s.heap s.heap [] := va_S.rf
  have hP : va_P (dC, dI) vwCm [(o, .inr (1, [.int th, .int (nI w), .int (nI h), .int (nI kw), .int (nI kh), .ref b1, .ref b2, .ref b3])), (b1, .inl (cC, 4096, .inl f)), (b2, .inl (cD, 4096, .inl g)), (b3, .inl (cE, 4096, .inl md))] s.heap := hP
  have hl := lv_entry ([.ref o]) (n := 5) (Nat.le_of_ble_eq_true rfl)
  rw [lg_entry_eq]
  generalize (lg_sl ([.ref o]) ++ List.replicate (5 - (lg_sl ([.ref o])).length) Slot.unset).toArray = ls at hl ⊢
  have hl : lv_has ls 5 [(0, .ref o)] := hl
  refine lv_iconst (v := nI 0) hx hb dY1_flipAll_0 (by decide +kernel) ?_
  refine lv_istore_n (lv' := [(1, .int (nI 0)), (0, .ref o)]) hx hb dY1_flipAll_1 rfl hl (by decide) rfl (fun ls hl => ?_)
  have lp2 : ∀ (n2 : Nat) (y0 : Nat) (m0 : Nat → Int32), y0 ≤ h → h < y0 + n2 → cf_dn w y0 0 0 m0 (cf_fl h (cf_V f)) → ∀ (H : Heap) (locs : List Loc), va_P (dC, dI) vwCm [(o, .inr (1, [.int th, .int (nI w), .int (nI h), .int (nI kw), .int (nI kh), .ref b1, .ref b2, .ref b3])), (b1, .inl (cC, 4096, .inl f)), (b2, .inl (cD, 4096, .inl g)), (b3, .inl (cE, 4096, .inl m0))] H → va_D A [(o, .inr (1, [.int th, .int (nI w), .int (nI h), .int (nI kw), .int (nI kh), .ref b1, .ref b2, .ref b3])), (b1, .inl (cC, 4096, .inl f)), (b2, .inl (cD, 4096, .inl g)), (b3, .inl (cE, 4096, .inl m0))] → va_S A s.heap H locs → ∀ (ls : Array Slot), lv_has ls 5 [(0, .ref o), (1, .int (nI y0))] → W p l e (headSpec wsY1_flipAll ({ frames := 1, cells := 0, slots := 0, locals := 23 })).room s m ([.ref o] : List Value).toArray below meth c H locs 0 0 (MQ below (va_Qv (fun u : (Nat → Int32) × (Nat → Int32) => cf_Ag w h (cf_V u.1) (cf_fl h (cf_V f))) (fun (u : (Nat → Int32) × (Nat → Int32)) (t : State) => va_P (dC, dI) vwCm [(o, .inr (1, [.int th, .int (nI w), .int (nI h), .int (nI kw), .int (nI kh), .ref b1, .ref b2, .ref b3])), (b1, .inl (cC, 4096, .inl u.1)), (b2, .inl (cD, 4096, .inl g)), (b3, .inl (cE, 4096, .inl u.2))] t.heap ∧ va_K (dC, dI) vwCm [(cC, .int), (cD, .int), (cE, .int)] t ∧ va_D A [(o, .inr (1, [.int th, .int (nI w), .int (nI h), .int (nI kw), .int (nI kh), .ref b1, .ref b2, .ref b3])), (b1, .inl (cC, 4096, .inl u.1)), (b2, .inl (cD, 4096, .inl g)), (b3, .inl (cE, 4096, .inl u.2))]) A) ([.ref o] : List Value).toArray s 0 0 A) (F0 m 2 ls []) := by
    intro n2
    induction n2 with
    | zero => intro y0 m0 h1 h2; exact absurd h2 (by omega)
    | succ n2 ih2 =>
      intro y0 m0 hk2 hn2 hI H locs hP hD hS ls hl
      refine lv_iload_n hx hb dY1_flipAll_2 rfl (lv_at hl 1 rfl) ?_
      refine lv_aload_n hx hb dY1_flipAll_3 rfl (lv_at hl 0 rfl) ?_
      refine va_get (D := (dC, dI)) (ci := 1) (v := .int (nI h)) (C := RY1) (T := TY1) (N := 8) hx hb hts (by decide +kernel) hown hK hP 0 rfl rfl 2 (by decide) (hts (.fieldLink RY1 27 "CoefTurnsModel" "h" "I") (by decide +kernel)) (fun _ h9 => h9) rfl dY1_flipAll_4 ?_
      refine lv_icmp_ge (tgt := 97) hx hb dY1_flipAll_7 (by decide) (fun c7 => ?_) (fun c7 => ?_)
      · skip
        have c7 := (nI_leI (a := h) (b := y0) (by omega) (by omega)).mp c7
        refine lv_aload_n hx hb dY1_flipAll_97 rfl (lv_at hl 0 rfl) ?_
        refine lv_aload_n hx hb dY1_flipAll_98 rfl (lv_at hl 0 rfl) ?_
        refine va_get (D := (dC, dI)) (ci := 1) (v := .int (nI w)) (C := RY1) (T := TY1) (N := 8) hx hb hts (by decide +kernel) hown hK hP 0 rfl rfl 1 (by decide) (hts (.fieldLink RY1 23 "CoefTurnsModel" "w" "I") (by decide +kernel)) (fun _ h9 => h9) rfl dY1_flipAll_99 ?_
        refine lv_aload_n hx hb dY1_flipAll_102 rfl (lv_at hl 0 rfl) ?_
        refine va_get (D := (dC, dI)) (ci := 1) (v := .int (nI h)) (C := RY1) (T := TY1) (N := 8) hx hb hts (by decide +kernel) hown hK hP 0 rfl rfl 2 (by decide) (hts (.fieldLink RY1 27 "CoefTurnsModel" "h" "I") (by decide +kernel)) (fun _ h9 => h9) rfl dY1_flipAll_103 ?_
        have hPc := hP.sub (ws' := [(o, .inr (1, [.int th, .int (nI w), .int (nI h), .int (nI kw), .int (nI kh), .ref b1, .ref b2, .ref b3])), (b1, .inl (cC, 4096, .inl f)), (b2, .inl (cD, 4096, .inl g)), (b3, .inl (cE, 4096, .inl m0))]) [0, 1, 2, 3] rfl
        have hKc := hK.sub (tys' := [(cC, .int), (cD, .int), (cE, .int)]) [0, 1, 2] rfl
        have hDc := hD.sub (ws' := [(o, .inr (1, [.int th, .int (nI w), .int (nI h), .int (nI kw), .int (nI kh), .ref b1, .ref b2, .ref b3])), (b1, .inl (cC, 4096, .inl f)), (b2, .inl (cD, 4096, .inl g)), (b3, .inl (cE, 4096, .inl m0))]) [0, 1, 2, 3] (by decide) rfl
        have hFc := va_free (wc := [(o, .inr (1, [.int th, .int (nI w), .int (nI h), .int (nI kw), .int (nI kh), .ref b1, .ref b2, .ref b3])), (b1, .inl (cC, 4096, .inl f)), (b2, .inl (cD, 4096, .inl g)), (b3, .inl (cE, 4096, .inl m0))]) hD hS hA [0, 1, 2, 3] rfl
        refine va_callv (va_runV (As := [.int (nI w), .int (nI h)]) (rest := []) ⟨hx, hb, hml, hown, hts⟩ (kY1_become l dC dI H.size o b1 b2 b3 cC cD cE f g m0 th w h kw kh w h) (cwV 2 hts gY1_flipAll_Y1_become rfl rfl rfl (by decide +kernel) ⟨Nat.le_of_ble_eq_true rfl, Nat.le_of_ble_eq_true rfl⟩) ⟨fun a U g mk q => by obtain ⟨q0, q1, qP, qK, qD⟩ := q; exact ⟨q0, q1, qP, va_K.moved (u := U) (U := U.calling g mk a) (Vm.Alike.refl U.vm) qK, qD⟩, va_recv hKc hPc (ci := 1) (q0 := 0) rfl rfl, fun U hU hW => ⟨rfl, by rw [hU], by rw [hU]; exact hPc, va_K.moved hW.alike hKc, hDc.weaken (fun _ _ _ _ => trivial)⟩⟩ rfl rfl hl.1 rfl (lv_room (Nat.le_of_ble_eq_true rfl)) dY1_flipAll_106 ⟨Nat.le_of_ble_eq_true rfl, Nat.le_of_ble_eq_true rfl⟩) hS (fun q _ h => hFc q h) hFc (fun u106 t H1 locs ht hvm w106 hB hz1 hk1 hS => ?_)
        obtain ⟨hP1, -, hD1⟩ := hB
        rw [ht] at hP1
        try dsimp only at w106
        obtain ⟨hP, hD⟩ := va_join (wr := []) (w1 := [(o, .inr (1, [.int th, .int (nI w), .int (nI h), .int (nI kw), .int (nI kh), .ref b1, .ref b2, .ref b3])), (b1, .inl (cC, 4096, .inl u106)), (b2, .inl (cD, 4096, .inl g)), (b3, .inl (cE, 4096, .inl m0))]) hP hD [0, 1, 2, 3] [] rfl rfl (by decide) (by decide) hk1 hFc hP1 hD1
        generalize H1 = H at hP hS ⊢
        have hP : va_P (dC, dI) vwCm [(o, .inr (1, [.int th, .int (nI w), .int (nI h), .int (nI kw), .int (nI kh), .ref b1, .ref b2, .ref b3])), (b1, .inl (cC, 4096, .inl u106)), (b2, .inl (cD, 4096, .inl g)), (b3, .inl (cE, 4096, .inl m0))] H := hP
        have hD : va_D A [(o, .inr (1, [.int th, .int (nI w), .int (nI h), .int (nI kw), .int (nI kh), .ref b1, .ref b2, .ref b3])), (b1, .inl (cC, 4096, .inl u106)), (b2, .inl (cD, 4096, .inl g)), (b3, .inl (cE, 4096, .inl m0))] := hD
        have hP9 := hP.sub (ws' := [(o, .inr (1, [.int th, .int (nI w), .int (nI h), .int (nI kw), .int (nI kh), .ref b1, .ref b2, .ref b3])), (b1, .inl (cC, 4096, .inl u106)), (b2, .inl (cD, 4096, .inl g)), (b3, .inl (cE, 4096, .inl m0))]) [0, 1, 2, 3] rfl
        have hD9 := hD.sub (ws' := [(o, .inr (1, [.int th, .int (nI w), .int (nI h), .int (nI kw), .int (nI kh), .ref b1, .ref b2, .ref b3])), (b1, .inl (cC, 4096, .inl u106)), (b2, .inl (cD, 4096, .inl g)), (b3, .inl (cE, 4096, .inl m0))]) [0, 1, 2, 3] (by decide) rfl
        exact W.vret hx hb hr (fun t ht hW => ⟨⟨(u106, m0), rfl, (by have e : y0 = h := (by omega); rw [e] at hI; exact (cf_cp_ag w106 hw hh).tr (cf_dn_e hI)), by rw [ht]; exact hP9, va_K.moved hW.alike hK, hD9⟩, hS.F ht⟩) hS.2.2 dY1_flipAll_109
      · skip
        have c7 := mt (nI_leI (a := h) (b := y0) (by omega) (by omega)).mpr c7
        refine lv_iconst (v := nI 0) hx hb dY1_flipAll_10 (by decide +kernel) ?_
        refine lv_istore_n (lv' := [(2, .int (nI 0)), (0, .ref o), (1, .int (nI y0))]) hx hb dY1_flipAll_11 rfl hl (by decide) rfl (fun ls hl => ?_)
        have lp12 : ∀ (n12 : Nat) (x0 : Nat) (m1 : Nat → Int32), x0 ≤ w → w < x0 + n12 → cf_dn w y0 x0 0 m1 (cf_fl h (cf_V f)) → ∀ (H : Heap) (locs : List Loc), va_P (dC, dI) vwCm [(o, .inr (1, [.int th, .int (nI w), .int (nI h), .int (nI kw), .int (nI kh), .ref b1, .ref b2, .ref b3])), (b1, .inl (cC, 4096, .inl f)), (b2, .inl (cD, 4096, .inl g)), (b3, .inl (cE, 4096, .inl m1))] H → va_D A [(o, .inr (1, [.int th, .int (nI w), .int (nI h), .int (nI kw), .int (nI kh), .ref b1, .ref b2, .ref b3])), (b1, .inl (cC, 4096, .inl f)), (b2, .inl (cD, 4096, .inl g)), (b3, .inl (cE, 4096, .inl m1))] → va_S A s.heap H locs → ∀ (ls : Array Slot), lv_has ls 5 [(0, .ref o), (1, .int (nI y0)), (2, .int (nI x0))] → W p l e (headSpec wsY1_flipAll ({ frames := 1, cells := 0, slots := 0, locals := 23 })).room s m ([.ref o] : List Value).toArray below meth c H locs 0 0 (MQ below (va_Qv (fun u : (Nat → Int32) × (Nat → Int32) => cf_Ag w h (cf_V u.1) (cf_fl h (cf_V f))) (fun (u : (Nat → Int32) × (Nat → Int32)) (t : State) => va_P (dC, dI) vwCm [(o, .inr (1, [.int th, .int (nI w), .int (nI h), .int (nI kw), .int (nI kh), .ref b1, .ref b2, .ref b3])), (b1, .inl (cC, 4096, .inl u.1)), (b2, .inl (cD, 4096, .inl g)), (b3, .inl (cE, 4096, .inl u.2))] t.heap ∧ va_K (dC, dI) vwCm [(cC, .int), (cD, .int), (cE, .int)] t ∧ va_D A [(o, .inr (1, [.int th, .int (nI w), .int (nI h), .int (nI kw), .int (nI kh), .ref b1, .ref b2, .ref b3])), (b1, .inl (cC, 4096, .inl u.1)), (b2, .inl (cD, 4096, .inl g)), (b3, .inl (cE, 4096, .inl u.2))]) A) ([.ref o] : List Value).toArray s 0 0 A) (F0 m 12 ls []) := by
          intro n12
          induction n12 with
          | zero => intro x0 m1 h1 h2; exact absurd h2 (by omega)
          | succ n12 ih12 =>
            intro x0 m1 hk12 hn12 hI1 H locs hP hD hS ls hl
            refine lv_iload_n hx hb dY1_flipAll_12 rfl (lv_at hl 2 rfl) ?_
            refine lv_aload_n hx hb dY1_flipAll_13 rfl (lv_at hl 0 rfl) ?_
            refine va_get (D := (dC, dI)) (ci := 1) (v := .int (nI w)) (C := RY1) (T := TY1) (N := 8) hx hb hts (by decide +kernel) hown hK hP 0 rfl rfl 1 (by decide) (hts (.fieldLink RY1 23 "CoefTurnsModel" "w" "I") (by decide +kernel)) (fun _ h9 => h9) rfl dY1_flipAll_14 ?_
            refine lv_icmp_ge (tgt := 91) hx hb dY1_flipAll_17 (by decide) (fun c17 => ?_) (fun c17 => ?_)
            · skip
              have c17 := (nI_leI (a := w) (b := x0) (by omega) (by omega)).mp c17
              refine lv_iinc (v := nI (y0 + 1)) (lv' := [(1, .int (nI (y0 + 1))), (0, .ref o), (2, .int (nI x0))]) hx hb dY1_flipAll_91 hl (k := 1) rfl (by rw [← nI_add]; rfl) (by decide) rfl (fun ls hl => ?_)
              refine lv_goto (tgt := 2) hx hb dY1_flipAll_94 (by decide) ?_
              exact ih2 (y0 + 1) m1 (by omega) (by omega) (cf_dn_r hI1 (by omega)) H locs hP hD hS ls (lv_sub hl [1, 0] rfl)
            · skip
              have c17 := mt (nI_leI (a := w) (b := x0) (by omega) (by omega)).mpr c17
              refine lv_iconst (v := nI 0) hx hb dY1_flipAll_20 (by decide +kernel) ?_
              refine lv_istore_n (lv' := [(3, .int (nI 0)), (0, .ref o), (1, .int (nI y0)), (2, .int (nI x0))]) hx hb dY1_flipAll_21 rfl hl (by decide) rfl (fun ls hl => ?_)
              have lp22 : ∀ (n22 : Nat) (p0 : Nat) (m2 : Nat → Int32), p0 ≤ 64 → 64 < p0 + n22 → cf_dn w y0 x0 p0 m2 (cf_fl h (cf_V f)) → ∀ (H : Heap) (locs : List Loc), va_P (dC, dI) vwCm [(o, .inr (1, [.int th, .int (nI w), .int (nI h), .int (nI kw), .int (nI kh), .ref b1, .ref b2, .ref b3])), (b1, .inl (cC, 4096, .inl f)), (b2, .inl (cD, 4096, .inl g)), (b3, .inl (cE, 4096, .inl m2))] H → va_D A [(o, .inr (1, [.int th, .int (nI w), .int (nI h), .int (nI kw), .int (nI kh), .ref b1, .ref b2, .ref b3])), (b1, .inl (cC, 4096, .inl f)), (b2, .inl (cD, 4096, .inl g)), (b3, .inl (cE, 4096, .inl m2))] → va_S A s.heap H locs → ∀ (ls : Array Slot), lv_has ls 5 [(0, .ref o), (1, .int (nI y0)), (2, .int (nI x0)), (3, .int (nI p0))] → W p l e (headSpec wsY1_flipAll ({ frames := 1, cells := 0, slots := 0, locals := 23 })).room s m ([.ref o] : List Value).toArray below meth c H locs 0 0 (MQ below (va_Qv (fun u : (Nat → Int32) × (Nat → Int32) => cf_Ag w h (cf_V u.1) (cf_fl h (cf_V f))) (fun (u : (Nat → Int32) × (Nat → Int32)) (t : State) => va_P (dC, dI) vwCm [(o, .inr (1, [.int th, .int (nI w), .int (nI h), .int (nI kw), .int (nI kh), .ref b1, .ref b2, .ref b3])), (b1, .inl (cC, 4096, .inl u.1)), (b2, .inl (cD, 4096, .inl g)), (b3, .inl (cE, 4096, .inl u.2))] t.heap ∧ va_K (dC, dI) vwCm [(cC, .int), (cD, .int), (cE, .int)] t ∧ va_D A [(o, .inr (1, [.int th, .int (nI w), .int (nI h), .int (nI kw), .int (nI kh), .ref b1, .ref b2, .ref b3])), (b1, .inl (cC, 4096, .inl u.1)), (b2, .inl (cD, 4096, .inl g)), (b3, .inl (cE, 4096, .inl u.2))]) A) ([.ref o] : List Value).toArray s 0 0 A) (F0 m 22 ls []) := by
                intro n22
                induction n22 with
                | zero => intro p0 m2 h1 h2; exact absurd h2 (by omega)
                | succ n22 ih22 =>
                  intro p0 m2 hk22 hn22 hI2 H locs hP hD hS ls hl
                  refine lv_iload_n hx hb dY1_flipAll_22 rfl (lv_at hl 3 rfl) ?_
                  refine lv_bipush (v := nI 64) hx hb dY1_flipAll_23 (by decide +kernel) ?_
                  refine lv_icmp_ge (tgt := 85) hx hb dY1_flipAll_25 (by decide) (fun c25 => ?_) (fun c25 => ?_)
                  · skip
                    have c25 := (nI_leI (a := 64) (b := p0) (by omega) (by omega)).mp c25
                    refine lv_iinc (v := nI (x0 + 1)) (lv' := [(2, .int (nI (x0 + 1))), (0, .ref o), (1, .int (nI y0)), (3, .int (nI p0))]) hx hb dY1_flipAll_85 hl (k := 2) rfl (by rw [← nI_add]; rfl) (by decide) rfl (fun ls hl => ?_)
                    refine lv_goto (tgt := 12) hx hb dY1_flipAll_88 (by decide) ?_
                    exact ih12 (x0 + 1) m2 (by omega) (by omega) (cf_dn_b hI2 (by omega)) H locs hP hD hS ls (lv_sub hl [1, 2, 0] rfl)
                  · skip
                    have c25 := mt (nI_leI (a := 64) (b := p0) (by omega) (by omega)).mpr c25
                    refine lv_aload_n hx hb dY1_flipAll_28 rfl (lv_at hl 0 rfl) ?_
                    refine va_get (D := (dC, dI)) (ci := 1) (v := .ref b1) (C := RY1) (T := TY1) (N := 8) hx hb hts (by decide +kernel) hown hK hP 0 rfl rfl 5 (by decide) (hts (.fieldLink RY1 7 "CoefTurnsModel" "plane" "[I") (by decide +kernel)) (fun _ h9 => h9) rfl dY1_flipAll_29 ?_
                    refine lv_iload_n hx hb dY1_flipAll_32 rfl (lv_at hl 2 rfl) ?_
                    refine lv_aload_n hx hb dY1_flipAll_33 rfl (lv_at hl 0 rfl) ?_
                    refine va_get (D := (dC, dI)) (ci := 1) (v := .int (nI h)) (C := RY1) (T := TY1) (N := 8) hx hb hts (by decide +kernel) hown hK hP 0 rfl rfl 2 (by decide) (hts (.fieldLink RY1 27 "CoefTurnsModel" "h" "I") (by decide +kernel)) (fun _ h9 => h9) rfl dY1_flipAll_34 ?_
                    refine lv_iconst (v := nI 1) hx hb dY1_flipAll_37 (by decide +kernel) ?_
                    refine lv_isub hx hb dY1_flipAll_38 ?_
                    refine cf_top (pk_sub (by omega)) ?_
                    refine lv_iload_n hx hb dY1_flipAll_39 rfl (lv_at hl 1 rfl) ?_
                    refine lv_isub hx hb dY1_flipAll_40 ?_
                    refine cf_top (pk_sub (by omega)) ?_
                    refine vp_callSi (W.runS (As := [.int (nI x0), .int (nI ((h - 1) - y0))]) (rest := [.ref b1]) ⟨hx, hb, hml, hown, hts⟩ (kY1_block l x0 ((h - 1) - y0)) (va_cwS 2 hts gY1_flipAll_Y1_block rfl rfl rfl (by decide +kernel) ⟨Nat.le_of_ble_eq_true rfl, Nat.le_of_ble_eq_true rfl⟩) ⟨fun a U g mk q => q, fun U hU hW => ⟨rfl, trivial⟩⟩ rfl rfl hl.1 rfl (lv_room (Nat.le_of_ble_eq_true rfl)) dY1_flipAll_41 ⟨Nat.le_of_ble_eq_true rfl, Nat.le_of_ble_eq_true rfl⟩) (fun r41 w41 => ?_)
                    subst w41
                    refine lv_iload_n hx hb dY1_flipAll_44 rfl (lv_at hl 3 rfl) ?_
                    refine lv_iadd hx hb dY1_flipAll_45 ?_
                    refine cf_top (nI_add _ _) ?_
                    refine cf_iald (D := (dC, dI)) hx hb hK hP 1 0 rfl rfl (k := 64 * (8 * ((h - 1) - y0) + x0) + p0) (by omega) (by decide) dY1_flipAll_46 ?_
                    refine lv_istore (lv' := [(4, .int (f (64 * (8 * ((h - 1) - y0) + x0) + p0))), (0, .ref o), (1, .int (nI y0)), (2, .int (nI x0)), (3, .int (nI p0))]) hx hb dY1_flipAll_47 hl (by decide) rfl (fun ls hl => ?_)
                    refine lv_aload_n hx hb dY1_flipAll_49 rfl (lv_at hl 1 rfl) ?_
                    refine va_get (D := (dC, dI)) (ci := 1) (v := .ref b3) (C := RY1) (T := TY1) (N := 8) hx hb hts (by decide +kernel) hown hK hP 0 rfl rfl 7 (by decide) (hts (.fieldLink RY1 16 "CoefTurnsModel" "moved" "[I") (by decide +kernel)) (fun _ h9 => h9) rfl dY1_flipAll_50 ?_
                    refine lv_iload_n hx hb dY1_flipAll_53 rfl (lv_at hl 3 rfl) ?_
                    refine lv_iload_n hx hb dY1_flipAll_54 rfl (lv_at hl 2 rfl) ?_
                    refine vp_callSi (W.runS (As := [.int (nI x0), .int (nI y0)]) (rest := [.ref b3]) ⟨hx, hb, hml, hown, hts⟩ (kY1_block l x0 y0) (va_cwS 2 hts gY1_flipAll_Y1_block rfl rfl rfl (by decide +kernel) ⟨Nat.le_of_ble_eq_true rfl, Nat.le_of_ble_eq_true rfl⟩) ⟨fun a U g mk q => q, fun U hU hW => ⟨rfl, trivial⟩⟩ rfl rfl hl.1 rfl (lv_room (Nat.le_of_ble_eq_true rfl)) dY1_flipAll_55 ⟨Nat.le_of_ble_eq_true rfl, Nat.le_of_ble_eq_true rfl⟩) (fun r55 w55 => ?_)
                    subst w55
                    refine lv_iload_n hx hb dY1_flipAll_58 rfl (lv_at hl 4 rfl) ?_
                    refine lv_iadd hx hb dY1_flipAll_59 ?_
                    refine cf_top (nI_add _ _) ?_
                    refine lv_iload_n hx hb dY1_flipAll_60 rfl (lv_at hl 4 rfl) ?_
                    refine lv_bipush (v := nI 8) hx hb dY1_flipAll_61 (by decide +kernel) ?_
                    refine lv_idiv hx hb dY1_flipAll_63 (nI_ne0 (by omega) (by omega)) ?_
                    refine cf_top (pk_div (by omega) (by omega) (by omega)) ?_
                    refine lv_iconst (v := nI 2) hx hb dY1_flipAll_64 (by decide +kernel) ?_
                    refine lv_irem hx hb dY1_flipAll_65 (nI_ne0 (by omega) (by omega)) ?_
                    refine cf_top (pk_rem (by omega) (by omega) (by omega)) ?_
                    refine lv_iconst (v := nI 1) hx hb dY1_flipAll_66 (by decide +kernel) ?_
                    refine lv_icmp_ne (tgt := 76) hx hb dY1_flipAll_67 (by decide) (fun c67 => ?_) (fun c67 => ?_)
                    · skip
                      have c67 := mt (nI_eq (a := (p0 / 8) % 2) (b := 1) (by omega) (by omega)).mpr c67
                      refine lv_iload hx hb dY1_flipAll_76 (lv_at hl 0 rfl) ?_
                      refine cf_iast (D := (dC, dI)) hx hb hK hP hD hS 3 2 rfl rfl (k := 64 * (8 * y0 + x0) + p0) (by omega) (by decide) dY1_flipAll_78 (fun H locs hP hD hS => ?_)
                      have hP : va_P (dC, dI) vwCm [(o, .inr (1, [.int th, .int (nI w), .int (nI h), .int (nI kw), .int (nI kh), .ref b1, .ref b2, .ref b3])), (b1, .inl (cC, 4096, .inl f)), (b2, .inl (cD, 4096, .inl g)), (b3, .inl (cE, 4096, .inl (upd m2 (64 * (8 * y0 + x0) + p0) (f (64 * (8 * ((h - 1) - y0) + x0) + p0)))))] H := hP
                      have hD : va_D A [(o, .inr (1, [.int th, .int (nI w), .int (nI h), .int (nI kw), .int (nI kh), .ref b1, .ref b2, .ref b3])), (b1, .inl (cC, 4096, .inl f)), (b2, .inl (cD, 4096, .inl g)), (b3, .inl (cE, 4096, .inl (upd m2 (64 * (8 * y0 + x0) + p0) (f (64 * (8 * ((h - 1) - y0) + x0) + p0)))))] := hD
                      refine lv_iinc (v := nI (p0 + 1)) (lv' := [(3, .int (nI (p0 + 1))), (4, .int (f (64 * (8 * ((h - 1) - y0) + x0) + p0))), (0, .ref o), (1, .int (nI y0)), (2, .int (nI x0))]) hx hb dY1_flipAll_79 hl (k := 4) rfl (by rw [← nI_add]; rfl) (by decide) rfl (fun ls hl => ?_)
                      refine lv_goto (tgt := 22) hx hb dY1_flipAll_82 (by decide) ?_
                      exact ih22 (p0 + 1) (upd m2 (64 * (8 * y0 + x0) + p0) (f (64 * (8 * ((h - 1) - y0) + x0) + p0))) (by omega) (by omega) (cf_dn_s hI2 hw (by omega) (by omega) (by unfold cf_fl; first | (rw [if_pos c67]; rfl) | (rw [if_neg c67]; rfl))) H locs hP hD hS ls (lv_sub hl [2, 3, 4, 0] rfl)
                    · skip
                      have c67 := (nI_eq (a := (p0 / 8) % 2) (b := 1) (by omega) (by omega)).mp c67
                      refine lv_iload hx hb dY1_flipAll_70 (lv_at hl 0 rfl) ?_
                      refine lv_ineg hx hb dY1_flipAll_72 ?_
                      refine lv_goto (tgt := 78) hx hb dY1_flipAll_73 (by decide) ?_
                      refine cf_iast (D := (dC, dI)) hx hb hK hP hD hS 3 2 rfl rfl (k := 64 * (8 * y0 + x0) + p0) (by omega) (by decide) dY1_flipAll_78 (fun H locs hP hD hS => ?_)
                      have hP : va_P (dC, dI) vwCm [(o, .inr (1, [.int th, .int (nI w), .int (nI h), .int (nI kw), .int (nI kh), .ref b1, .ref b2, .ref b3])), (b1, .inl (cC, 4096, .inl f)), (b2, .inl (cD, 4096, .inl g)), (b3, .inl (cE, 4096, .inl (upd m2 (64 * (8 * y0 + x0) + p0) (-(f (64 * (8 * ((h - 1) - y0) + x0) + p0))))))] H := hP
                      have hD : va_D A [(o, .inr (1, [.int th, .int (nI w), .int (nI h), .int (nI kw), .int (nI kh), .ref b1, .ref b2, .ref b3])), (b1, .inl (cC, 4096, .inl f)), (b2, .inl (cD, 4096, .inl g)), (b3, .inl (cE, 4096, .inl (upd m2 (64 * (8 * y0 + x0) + p0) (-(f (64 * (8 * ((h - 1) - y0) + x0) + p0))))))] := hD
                      refine lv_iinc (v := nI (p0 + 1)) (lv' := [(3, .int (nI (p0 + 1))), (4, .int (f (64 * (8 * ((h - 1) - y0) + x0) + p0))), (0, .ref o), (1, .int (nI y0)), (2, .int (nI x0))]) hx hb dY1_flipAll_79 hl (k := 4) rfl (by rw [← nI_add]; rfl) (by decide) rfl (fun ls hl => ?_)
                      refine lv_goto (tgt := 22) hx hb dY1_flipAll_82 (by decide) ?_
                      exact ih22 (p0 + 1) (upd m2 (64 * (8 * y0 + x0) + p0) (-(f (64 * (8 * ((h - 1) - y0) + x0) + p0)))) (by omega) (by omega) (cf_dn_s hI2 hw (by omega) (by omega) (by unfold cf_fl; first | (rw [if_pos c67]; rfl) | (rw [if_neg c67]; rfl))) H locs hP hD hS ls (lv_sub hl [2, 3, 4, 0] rfl)
              exact lp22 (64 + 1) 0 m1 (by omega) (by omega) hI1 H locs hP hD hS ls (lv_sub hl [1, 2, 3, 0] rfl)
        exact lp12 (w + 1) 0 m0 (by omega) (by omega) hI H locs hP hD hS ls (lv_sub hl [1, 2, 0] rfl)
  exact lp2 (h + 1) 0 md (by omega) (by omega) cf_dn_0 s.heap [] hP hD hS ls (lv_sub hl [1, 0] rfl)
set_option maxHeartbeats 4000000 in
set_option maxRecDepth 100000 in
/-- Y1_transpose -/
theorem kY1_transpose (l : Launch) (dC : Nat → ClassId) (dI : Nat → Nat → Nat) (sz : Nat) (o b1 b2 b3 : Nat) (cC cD cE : ClassId) (f g md : Nat → Int32) (th : Int32) (w h kw kh : Nat) (hw : w ≤ 8) (hh : h ≤ 8) (hw1 : 1 ≤ w) (hh1 : 1 ≤ h) : Met l yY1_transpose wsY1_transpose ({ frames := 2, cells := 0, slots := 0, locals := 46 }) (va_Pc [.ref o] (fun U => U.heap.size = sz ∧ va_P (dC, dI) vwCm [(o, .inr (1, [.int th, .int (nI w), .int (nI h), .int (nI kw), .int (nI kh), .ref b1, .ref b2, .ref b3])), (b1, .inl (cC, 4096, .inl f)), (b2, .inl (cD, 4096, .inl g)), (b3, .inl (cE, 4096, .inl md))] U.heap ∧ va_K (dC, dI) vwCm [(cC, .int), (cD, .int), (cE, .int)] U ∧ va_D (fun _ => True) [(o, .inr (1, [.int th, .int (nI w), .int (nI h), .int (nI kw), .int (nI kh), .ref b1, .ref b2, .ref b3])), (b1, .inl (cC, 4096, .inl f)), (b2, .inl (cD, 4096, .inl g)), (b3, .inl (cE, 4096, .inl md))])) (va_Qv (fun u : (Nat → Int32) × (Nat → Int32) => cf_Ag h w (cf_V u.1) (cf_tr (cf_V f))) (fun (u : (Nat → Int32) × (Nat → Int32)) (t : State) => va_P (dC, dI) vwCm [(o, .inr (1, [.int (nI 0), .int (nI h), .int (nI w), .int (nI kw), .int (nI kh), .ref b1, .ref b2, .ref b3])), (b1, .inl (cC, 4096, .inl u.1)), (b2, .inl (cD, 4096, .inl g)), (b3, .inl (cE, 4096, .inl u.2))] t.heap ∧ va_K (dC, dI) vwCm [(cC, .int), (cD, .int), (cE, .int)] t ∧ va_D (va_A [(o, .inr (1, [.int th, .int (nI w), .int (nI h), .int (nI kw), .int (nI kh), .ref b1, .ref b2, .ref b3])), (b1, .inl (cC, 4096, .inl f)), (b2, .inl (cD, 4096, .inl g)), (b3, .inl (cE, 4096, .inl md))] sz) [(o, .inr (1, [.int (nI 0), .int (nI h), .int (nI w), .int (nI kw), .int (nI kh), .ref b1, .ref b2, .ref b3])), (b1, .inl (cC, 4096, .inl u.1)), (b2, .inl (cD, 4096, .inl g)), (b3, .inl (cE, 4096, .inl u.2))]) (va_A [(o, .inr (1, [.int th, .int (nI w), .int (nI h), .int (nI kw), .int (nI kh), .ref b1, .ref b2, .ref b3])), (b1, .inl (cC, 4096, .inl f)), (b2, .inl (cD, 4096, .inl g)), (b3, .inl (cE, 4096, .inl md))] sz)) 0 0 (va_A [(o, .inr (1, [.int th, .int (nI w), .int (nI h), .int (nI kw), .int (nI kh), .ref b1, .ref b2, .ref b3])), (b1, .inl (cC, 4096, .inl f)), (b2, .inl (cD, 4096, .inl g)), (b3, .inl (cE, 4096, .inl md))] sz) := by
  refine Met.ofW (cc := cY1_transpose) (maxL := 1) (ret := none) (by decide) rfl ?_
  intro p e s m args below meth c s₁ B hml hv
  obtain ⟨rfl, hsz, hP, hK, hD0⟩ := hv
  have hx := B.exec
  have hb := B.bytes
  have hr := B.returns
  have hts := atoms_spec (ws := wsY1_transpose) B.pre
  have hown : s.vm.findClass RY1 = some m.cls := findClass_of_methodNamed B.named
  have hlocks := B.notSynchronized
  subst hsz
  have hD := hD0.self (sz := s.heap.size)
  generalize hAe : va_A [(o, .inr (1, [.int th, .int (nI w), .int (nI h), .int (nI kw), .int (nI kh), .ref b1, .ref b2, .ref b3])), (b1, .inl (cC, 4096, .inl f)), (b2, .inl (cD, 4096, .inl g)), (b3, .inl (cE, 4096, .inl md))] s.heap.size = A at hD ⊢
  have hA : ∀ q : Nat, s.heap.size ≤ q → A q := fun q h => by rw [← hAe]; exact Or.inr h
  have hS : va_S A s.heap s.heap [] := va_S.rf
  have hP : va_P (dC, dI) vwCm [(o, .inr (1, [.int th, .int (nI w), .int (nI h), .int (nI kw), .int (nI kh), .ref b1, .ref b2, .ref b3])), (b1, .inl (cC, 4096, .inl f)), (b2, .inl (cD, 4096, .inl g)), (b3, .inl (cE, 4096, .inl md))] s.heap := hP
  have hl := lv_entry ([.ref o]) (n := 1) (Nat.le_of_ble_eq_true rfl)
  rw [lg_entry_eq]
  generalize (lg_sl ([.ref o]) ++ List.replicate (1 - (lg_sl ([.ref o])).length) Slot.unset).toArray = ls at hl ⊢
  have hl : lv_has ls 1 [(0, .ref o)] := hl
  refine lv_aload_n hx hb dY1_transpose_0 rfl (lv_at hl 0 rfl) ?_
  refine lv_iconst (v := nI 0) hx hb dY1_transpose_1 (by decide +kernel) ?_
  refine va_put (D := (dC, dI)) (ci := 1) (v := .int (nI 0)) (ty := .int) (C := RY1) (T := TY1) (N := 8) hx hb hts (by decide +kernel) tyY1 tyY1_ok nmY1 hown hK hP hD hS 0 rfl rfl 0 (by decide) (hts (.fieldLink RY1 36 "CoefTurnsModel" "thrown" "I") (by decide +kernel)) (fun _ h9 => h9) rfl (by decide +kernel) rfl rfl (Nat.le_of_ble_eq_true rfl) dY1_transpose_2 (fun H locs hP hD hS => ?_)
  have hP : va_P (dC, dI) vwCm [(o, .inr (1, [.int (nI 0), .int (nI w), .int (nI h), .int (nI kw), .int (nI kh), .ref b1, .ref b2, .ref b3])), (b1, .inl (cC, 4096, .inl f)), (b2, .inl (cD, 4096, .inl g)), (b3, .inl (cE, 4096, .inl md))] H := hP
  have hD : va_D A [(o, .inr (1, [.int (nI 0), .int (nI w), .int (nI h), .int (nI kw), .int (nI kh), .ref b1, .ref b2, .ref b3])), (b1, .inl (cC, 4096, .inl f)), (b2, .inl (cD, 4096, .inl g)), (b3, .inl (cE, 4096, .inl md))] := hD
  refine lv_aload_n hx hb dY1_transpose_5 rfl (lv_at hl 0 rfl) ?_
  have hPc := hP.sub (ws' := [(o, .inr (1, [.int (nI 0), .int (nI w), .int (nI h), .int (nI kw), .int (nI kh), .ref b1, .ref b2, .ref b3])), (b1, .inl (cC, 4096, .inl f)), (b2, .inl (cD, 4096, .inl g)), (b3, .inl (cE, 4096, .inl md))]) [0, 1, 2, 3] rfl
  have hKc := hK.sub (tys' := [(cC, .int), (cD, .int), (cE, .int)]) [0, 1, 2] rfl
  have hDc := hD.sub (ws' := [(o, .inr (1, [.int (nI 0), .int (nI w), .int (nI h), .int (nI kw), .int (nI kh), .ref b1, .ref b2, .ref b3])), (b1, .inl (cC, 4096, .inl f)), (b2, .inl (cD, 4096, .inl g)), (b3, .inl (cE, 4096, .inl md))]) [0, 1, 2, 3] (by decide) rfl
  have hFc := va_free (wc := [(o, .inr (1, [.int (nI 0), .int (nI w), .int (nI h), .int (nI kw), .int (nI kh), .ref b1, .ref b2, .ref b3])), (b1, .inl (cC, 4096, .inl f)), (b2, .inl (cD, 4096, .inl g)), (b3, .inl (cE, 4096, .inl md))]) hD hS hA [0, 1, 2, 3] rfl
  refine va_callv (va_runV (As := []) (rest := []) ⟨hx, hb, hml, hown, hts⟩ (kY1_transposeAll l dC dI H.size o b1 b2 b3 cC cD cE f g md (nI 0) w h kw kh (by omega) (by omega) (by omega) (by omega)) (cwV 0 hts gY1_transpose_Y1_transposeAll rfl rfl rfl (by decide +kernel) ⟨Nat.le_of_ble_eq_true rfl, Nat.le_of_ble_eq_true rfl⟩) ⟨fun a U g mk q => by obtain ⟨q0, q1, qP, qK, qD⟩ := q; exact ⟨q0, q1, qP, va_K.moved (u := U) (U := U.calling g mk a) (Vm.Alike.refl U.vm) qK, qD⟩, va_recv hKc hPc (ci := 1) (q0 := 0) rfl rfl, fun U hU hW => ⟨rfl, by rw [hU], by rw [hU]; exact hPc, va_K.moved hW.alike hKc, hDc.weaken (fun _ _ _ _ => trivial)⟩⟩ rfl rfl hl.1 rfl (lv_room (Nat.le_of_ble_eq_true rfl)) dY1_transpose_6 ⟨Nat.le_of_ble_eq_true rfl, Nat.le_of_ble_eq_true rfl⟩) hS (fun q _ h => hFc q h) hFc (fun u6 t H1 locs ht hvm w6 hB hz1 hk1 hS => ?_)
  obtain ⟨hP1, -, hD1⟩ := hB
  rw [ht] at hP1
  try dsimp only at w6
  obtain ⟨hP, hD⟩ := va_join (wr := []) (w1 := [(o, .inr (1, [.int (nI 0), .int (nI h), .int (nI w), .int (nI kw), .int (nI kh), .ref b1, .ref b2, .ref b3])), (b1, .inl (cC, 4096, .inl u6.1)), (b2, .inl (cD, 4096, .inl g)), (b3, .inl (cE, 4096, .inl u6.2))]) hP hD [0, 1, 2, 3] [] rfl rfl (by decide) (by decide) hk1 hFc hP1 hD1
  generalize H1 = H at hP hS ⊢
  have hP : va_P (dC, dI) vwCm [(o, .inr (1, [.int (nI 0), .int (nI h), .int (nI w), .int (nI kw), .int (nI kh), .ref b1, .ref b2, .ref b3])), (b1, .inl (cC, 4096, .inl u6.1)), (b2, .inl (cD, 4096, .inl g)), (b3, .inl (cE, 4096, .inl u6.2))] H := hP
  have hD : va_D A [(o, .inr (1, [.int (nI 0), .int (nI h), .int (nI w), .int (nI kw), .int (nI kh), .ref b1, .ref b2, .ref b3])), (b1, .inl (cC, 4096, .inl u6.1)), (b2, .inl (cD, 4096, .inl g)), (b3, .inl (cE, 4096, .inl u6.2))] := hD
  have hP9 := hP.sub (ws' := [(o, .inr (1, [.int (nI 0), .int (nI h), .int (nI w), .int (nI kw), .int (nI kh), .ref b1, .ref b2, .ref b3])), (b1, .inl (cC, 4096, .inl u6.1)), (b2, .inl (cD, 4096, .inl g)), (b3, .inl (cE, 4096, .inl u6.2))]) [0, 1, 2, 3] rfl
  have hD9 := hD.sub (ws' := [(o, .inr (1, [.int (nI 0), .int (nI h), .int (nI w), .int (nI kw), .int (nI kh), .ref b1, .ref b2, .ref b3])), (b1, .inl (cC, 4096, .inl u6.1)), (b2, .inl (cD, 4096, .inl g)), (b3, .inl (cE, 4096, .inl u6.2))]) [0, 1, 2, 3] (by decide) rfl
  exact W.vret hx hb hr (fun t ht hW => ⟨⟨u6, rfl, w6, by rw [ht]; exact hP9, va_K.moved hW.alike hK, hD9⟩, hS.F ht⟩) hS.2.2 dY1_transpose_9
set_option maxHeartbeats 4000000 in
set_option maxRecDepth 100000 in
/-- Y1_mirror -/
theorem kY1_mirror (l : Launch) (dC : Nat → ClassId) (dI : Nat → Nat → Nat) (sz : Nat) (o b1 b2 b3 : Nat) (cC cD cE : ClassId) (f g md : Nat → Int32) (th : Int32) (w h kw kh : Nat) (hw : w ≤ 8) (hh : h ≤ 8) (hw1 : 1 ≤ w) (hh1 : 1 ≤ h) : Met l yY1_mirror wsY1_mirror ({ frames := 2, cells := 0, slots := 0, locals := 47 }) (va_Pc [.ref o] (fun U => U.heap.size = sz ∧ va_P (dC, dI) vwCm [(o, .inr (1, [.int th, .int (nI w), .int (nI h), .int (nI kw), .int (nI kh), .ref b1, .ref b2, .ref b3])), (b1, .inl (cC, 4096, .inl f)), (b2, .inl (cD, 4096, .inl g)), (b3, .inl (cE, 4096, .inl md))] U.heap ∧ va_K (dC, dI) vwCm [(cC, .int), (cD, .int), (cE, .int)] U ∧ va_D (fun _ => True) [(o, .inr (1, [.int th, .int (nI w), .int (nI h), .int (nI kw), .int (nI kh), .ref b1, .ref b2, .ref b3])), (b1, .inl (cC, 4096, .inl f)), (b2, .inl (cD, 4096, .inl g)), (b3, .inl (cE, 4096, .inl md))])) (va_Qv (fun u : (Nat → Int32) × (Nat → Int32) => cf_Ag w h (cf_V u.1) (cf_mi w (cf_V f))) (fun (u : (Nat → Int32) × (Nat → Int32)) (t : State) => va_P (dC, dI) vwCm [(o, .inr (1, [.int (nI 0), .int (nI w), .int (nI h), .int (nI kw), .int (nI kh), .ref b1, .ref b2, .ref b3])), (b1, .inl (cC, 4096, .inl u.1)), (b2, .inl (cD, 4096, .inl g)), (b3, .inl (cE, 4096, .inl u.2))] t.heap ∧ va_K (dC, dI) vwCm [(cC, .int), (cD, .int), (cE, .int)] t ∧ va_D (va_A [(o, .inr (1, [.int th, .int (nI w), .int (nI h), .int (nI kw), .int (nI kh), .ref b1, .ref b2, .ref b3])), (b1, .inl (cC, 4096, .inl f)), (b2, .inl (cD, 4096, .inl g)), (b3, .inl (cE, 4096, .inl md))] sz) [(o, .inr (1, [.int (nI 0), .int (nI w), .int (nI h), .int (nI kw), .int (nI kh), .ref b1, .ref b2, .ref b3])), (b1, .inl (cC, 4096, .inl u.1)), (b2, .inl (cD, 4096, .inl g)), (b3, .inl (cE, 4096, .inl u.2))]) (va_A [(o, .inr (1, [.int th, .int (nI w), .int (nI h), .int (nI kw), .int (nI kh), .ref b1, .ref b2, .ref b3])), (b1, .inl (cC, 4096, .inl f)), (b2, .inl (cD, 4096, .inl g)), (b3, .inl (cE, 4096, .inl md))] sz)) 0 0 (va_A [(o, .inr (1, [.int th, .int (nI w), .int (nI h), .int (nI kw), .int (nI kh), .ref b1, .ref b2, .ref b3])), (b1, .inl (cC, 4096, .inl f)), (b2, .inl (cD, 4096, .inl g)), (b3, .inl (cE, 4096, .inl md))] sz) := by
  refine Met.ofW (cc := cY1_mirror) (maxL := 1) (ret := none) (by decide) rfl ?_
  intro p e s m args below meth c s₁ B hml hv
  obtain ⟨rfl, hsz, hP, hK, hD0⟩ := hv
  have hx := B.exec
  have hb := B.bytes
  have hr := B.returns
  have hts := atoms_spec (ws := wsY1_mirror) B.pre
  have hown : s.vm.findClass RY1 = some m.cls := findClass_of_methodNamed B.named
  have hlocks := B.notSynchronized
  subst hsz
  have hD := hD0.self (sz := s.heap.size)
  generalize hAe : va_A [(o, .inr (1, [.int th, .int (nI w), .int (nI h), .int (nI kw), .int (nI kh), .ref b1, .ref b2, .ref b3])), (b1, .inl (cC, 4096, .inl f)), (b2, .inl (cD, 4096, .inl g)), (b3, .inl (cE, 4096, .inl md))] s.heap.size = A at hD ⊢
  have hA : ∀ q : Nat, s.heap.size ≤ q → A q := fun q h => by rw [← hAe]; exact Or.inr h
  have hS : va_S A s.heap s.heap [] := va_S.rf
  have hP : va_P (dC, dI) vwCm [(o, .inr (1, [.int th, .int (nI w), .int (nI h), .int (nI kw), .int (nI kh), .ref b1, .ref b2, .ref b3])), (b1, .inl (cC, 4096, .inl f)), (b2, .inl (cD, 4096, .inl g)), (b3, .inl (cE, 4096, .inl md))] s.heap := hP
  have hl := lv_entry ([.ref o]) (n := 1) (Nat.le_of_ble_eq_true rfl)
  rw [lg_entry_eq]
  generalize (lg_sl ([.ref o]) ++ List.replicate (1 - (lg_sl ([.ref o])).length) Slot.unset).toArray = ls at hl ⊢
  have hl : lv_has ls 1 [(0, .ref o)] := hl
  refine lv_aload_n hx hb dY1_mirror_0 rfl (lv_at hl 0 rfl) ?_
  refine lv_iconst (v := nI 0) hx hb dY1_mirror_1 (by decide +kernel) ?_
  refine va_put (D := (dC, dI)) (ci := 1) (v := .int (nI 0)) (ty := .int) (C := RY1) (T := TY1) (N := 8) hx hb hts (by decide +kernel) tyY1 tyY1_ok nmY1 hown hK hP hD hS 0 rfl rfl 0 (by decide) (hts (.fieldLink RY1 36 "CoefTurnsModel" "thrown" "I") (by decide +kernel)) (fun _ h9 => h9) rfl (by decide +kernel) rfl rfl (Nat.le_of_ble_eq_true rfl) dY1_mirror_2 (fun H locs hP hD hS => ?_)
  have hP : va_P (dC, dI) vwCm [(o, .inr (1, [.int (nI 0), .int (nI w), .int (nI h), .int (nI kw), .int (nI kh), .ref b1, .ref b2, .ref b3])), (b1, .inl (cC, 4096, .inl f)), (b2, .inl (cD, 4096, .inl g)), (b3, .inl (cE, 4096, .inl md))] H := hP
  have hD : va_D A [(o, .inr (1, [.int (nI 0), .int (nI w), .int (nI h), .int (nI kw), .int (nI kh), .ref b1, .ref b2, .ref b3])), (b1, .inl (cC, 4096, .inl f)), (b2, .inl (cD, 4096, .inl g)), (b3, .inl (cE, 4096, .inl md))] := hD
  refine lv_aload_n hx hb dY1_mirror_5 rfl (lv_at hl 0 rfl) ?_
  have hPc := hP.sub (ws' := [(o, .inr (1, [.int (nI 0), .int (nI w), .int (nI h), .int (nI kw), .int (nI kh), .ref b1, .ref b2, .ref b3])), (b1, .inl (cC, 4096, .inl f)), (b2, .inl (cD, 4096, .inl g)), (b3, .inl (cE, 4096, .inl md))]) [0, 1, 2, 3] rfl
  have hKc := hK.sub (tys' := [(cC, .int), (cD, .int), (cE, .int)]) [0, 1, 2] rfl
  have hDc := hD.sub (ws' := [(o, .inr (1, [.int (nI 0), .int (nI w), .int (nI h), .int (nI kw), .int (nI kh), .ref b1, .ref b2, .ref b3])), (b1, .inl (cC, 4096, .inl f)), (b2, .inl (cD, 4096, .inl g)), (b3, .inl (cE, 4096, .inl md))]) [0, 1, 2, 3] (by decide) rfl
  have hFc := va_free (wc := [(o, .inr (1, [.int (nI 0), .int (nI w), .int (nI h), .int (nI kw), .int (nI kh), .ref b1, .ref b2, .ref b3])), (b1, .inl (cC, 4096, .inl f)), (b2, .inl (cD, 4096, .inl g)), (b3, .inl (cE, 4096, .inl md))]) hD hS hA [0, 1, 2, 3] rfl
  refine va_callv (va_runV (As := []) (rest := []) ⟨hx, hb, hml, hown, hts⟩ (kY1_mirrorAll l dC dI H.size o b1 b2 b3 cC cD cE f g md (nI 0) w h kw kh (by omega) (by omega) (by omega) (by omega)) (cwV 0 hts gY1_mirror_Y1_mirrorAll rfl rfl rfl (by decide +kernel) ⟨Nat.le_of_ble_eq_true rfl, Nat.le_of_ble_eq_true rfl⟩) ⟨fun a U g mk q => by obtain ⟨q0, q1, qP, qK, qD⟩ := q; exact ⟨q0, q1, qP, va_K.moved (u := U) (U := U.calling g mk a) (Vm.Alike.refl U.vm) qK, qD⟩, va_recv hKc hPc (ci := 1) (q0 := 0) rfl rfl, fun U hU hW => ⟨rfl, by rw [hU], by rw [hU]; exact hPc, va_K.moved hW.alike hKc, hDc.weaken (fun _ _ _ _ => trivial)⟩⟩ rfl rfl hl.1 rfl (lv_room (Nat.le_of_ble_eq_true rfl)) dY1_mirror_6 ⟨Nat.le_of_ble_eq_true rfl, Nat.le_of_ble_eq_true rfl⟩) hS (fun q _ h => hFc q h) hFc (fun u6 t H1 locs ht hvm w6 hB hz1 hk1 hS => ?_)
  obtain ⟨hP1, -, hD1⟩ := hB
  rw [ht] at hP1
  try dsimp only at w6
  obtain ⟨hP, hD⟩ := va_join (wr := []) (w1 := [(o, .inr (1, [.int (nI 0), .int (nI w), .int (nI h), .int (nI kw), .int (nI kh), .ref b1, .ref b2, .ref b3])), (b1, .inl (cC, 4096, .inl u6.1)), (b2, .inl (cD, 4096, .inl g)), (b3, .inl (cE, 4096, .inl u6.2))]) hP hD [0, 1, 2, 3] [] rfl rfl (by decide) (by decide) hk1 hFc hP1 hD1
  generalize H1 = H at hP hS ⊢
  have hP : va_P (dC, dI) vwCm [(o, .inr (1, [.int (nI 0), .int (nI w), .int (nI h), .int (nI kw), .int (nI kh), .ref b1, .ref b2, .ref b3])), (b1, .inl (cC, 4096, .inl u6.1)), (b2, .inl (cD, 4096, .inl g)), (b3, .inl (cE, 4096, .inl u6.2))] H := hP
  have hD : va_D A [(o, .inr (1, [.int (nI 0), .int (nI w), .int (nI h), .int (nI kw), .int (nI kh), .ref b1, .ref b2, .ref b3])), (b1, .inl (cC, 4096, .inl u6.1)), (b2, .inl (cD, 4096, .inl g)), (b3, .inl (cE, 4096, .inl u6.2))] := hD
  have hP9 := hP.sub (ws' := [(o, .inr (1, [.int (nI 0), .int (nI w), .int (nI h), .int (nI kw), .int (nI kh), .ref b1, .ref b2, .ref b3])), (b1, .inl (cC, 4096, .inl u6.1)), (b2, .inl (cD, 4096, .inl g)), (b3, .inl (cE, 4096, .inl u6.2))]) [0, 1, 2, 3] rfl
  have hD9 := hD.sub (ws' := [(o, .inr (1, [.int (nI 0), .int (nI w), .int (nI h), .int (nI kw), .int (nI kh), .ref b1, .ref b2, .ref b3])), (b1, .inl (cC, 4096, .inl u6.1)), (b2, .inl (cD, 4096, .inl g)), (b3, .inl (cE, 4096, .inl u6.2))]) [0, 1, 2, 3] (by decide) rfl
  exact W.vret hx hb hr (fun t ht hW => ⟨⟨u6, rfl, w6, by rw [ht]; exact hP9, va_K.moved hW.alike hK, hD9⟩, hS.F ht⟩) hS.2.2 dY1_mirror_9
set_option maxHeartbeats 4000000 in
set_option maxRecDepth 100000 in
/-- Y1_flip -/
theorem kY1_flip (l : Launch) (dC : Nat → ClassId) (dI : Nat → Nat → Nat) (sz : Nat) (o b1 b2 b3 : Nat) (cC cD cE : ClassId) (f g md : Nat → Int32) (th : Int32) (w h kw kh : Nat) (hw : w ≤ 8) (hh : h ≤ 8) (hw1 : 1 ≤ w) (hh1 : 1 ≤ h) : Met l yY1_flip wsY1_flip ({ frames := 2, cells := 0, slots := 0, locals := 47 }) (va_Pc [.ref o] (fun U => U.heap.size = sz ∧ va_P (dC, dI) vwCm [(o, .inr (1, [.int th, .int (nI w), .int (nI h), .int (nI kw), .int (nI kh), .ref b1, .ref b2, .ref b3])), (b1, .inl (cC, 4096, .inl f)), (b2, .inl (cD, 4096, .inl g)), (b3, .inl (cE, 4096, .inl md))] U.heap ∧ va_K (dC, dI) vwCm [(cC, .int), (cD, .int), (cE, .int)] U ∧ va_D (fun _ => True) [(o, .inr (1, [.int th, .int (nI w), .int (nI h), .int (nI kw), .int (nI kh), .ref b1, .ref b2, .ref b3])), (b1, .inl (cC, 4096, .inl f)), (b2, .inl (cD, 4096, .inl g)), (b3, .inl (cE, 4096, .inl md))])) (va_Qv (fun u : (Nat → Int32) × (Nat → Int32) => cf_Ag w h (cf_V u.1) (cf_fl h (cf_V f))) (fun (u : (Nat → Int32) × (Nat → Int32)) (t : State) => va_P (dC, dI) vwCm [(o, .inr (1, [.int (nI 0), .int (nI w), .int (nI h), .int (nI kw), .int (nI kh), .ref b1, .ref b2, .ref b3])), (b1, .inl (cC, 4096, .inl u.1)), (b2, .inl (cD, 4096, .inl g)), (b3, .inl (cE, 4096, .inl u.2))] t.heap ∧ va_K (dC, dI) vwCm [(cC, .int), (cD, .int), (cE, .int)] t ∧ va_D (va_A [(o, .inr (1, [.int th, .int (nI w), .int (nI h), .int (nI kw), .int (nI kh), .ref b1, .ref b2, .ref b3])), (b1, .inl (cC, 4096, .inl f)), (b2, .inl (cD, 4096, .inl g)), (b3, .inl (cE, 4096, .inl md))] sz) [(o, .inr (1, [.int (nI 0), .int (nI w), .int (nI h), .int (nI kw), .int (nI kh), .ref b1, .ref b2, .ref b3])), (b1, .inl (cC, 4096, .inl u.1)), (b2, .inl (cD, 4096, .inl g)), (b3, .inl (cE, 4096, .inl u.2))]) (va_A [(o, .inr (1, [.int th, .int (nI w), .int (nI h), .int (nI kw), .int (nI kh), .ref b1, .ref b2, .ref b3])), (b1, .inl (cC, 4096, .inl f)), (b2, .inl (cD, 4096, .inl g)), (b3, .inl (cE, 4096, .inl md))] sz)) 0 0 (va_A [(o, .inr (1, [.int th, .int (nI w), .int (nI h), .int (nI kw), .int (nI kh), .ref b1, .ref b2, .ref b3])), (b1, .inl (cC, 4096, .inl f)), (b2, .inl (cD, 4096, .inl g)), (b3, .inl (cE, 4096, .inl md))] sz) := by
  refine Met.ofW (cc := cY1_flip) (maxL := 1) (ret := none) (by decide) rfl ?_
  intro p e s m args below meth c s₁ B hml hv
  obtain ⟨rfl, hsz, hP, hK, hD0⟩ := hv
  have hx := B.exec
  have hb := B.bytes
  have hr := B.returns
  have hts := atoms_spec (ws := wsY1_flip) B.pre
  have hown : s.vm.findClass RY1 = some m.cls := findClass_of_methodNamed B.named
  have hlocks := B.notSynchronized
  subst hsz
  have hD := hD0.self (sz := s.heap.size)
  generalize hAe : va_A [(o, .inr (1, [.int th, .int (nI w), .int (nI h), .int (nI kw), .int (nI kh), .ref b1, .ref b2, .ref b3])), (b1, .inl (cC, 4096, .inl f)), (b2, .inl (cD, 4096, .inl g)), (b3, .inl (cE, 4096, .inl md))] s.heap.size = A at hD ⊢
  have hA : ∀ q : Nat, s.heap.size ≤ q → A q := fun q h => by rw [← hAe]; exact Or.inr h
  have hS : va_S A s.heap s.heap [] := va_S.rf
  have hP : va_P (dC, dI) vwCm [(o, .inr (1, [.int th, .int (nI w), .int (nI h), .int (nI kw), .int (nI kh), .ref b1, .ref b2, .ref b3])), (b1, .inl (cC, 4096, .inl f)), (b2, .inl (cD, 4096, .inl g)), (b3, .inl (cE, 4096, .inl md))] s.heap := hP
  have hl := lv_entry ([.ref o]) (n := 1) (Nat.le_of_ble_eq_true rfl)
  rw [lg_entry_eq]
  generalize (lg_sl ([.ref o]) ++ List.replicate (1 - (lg_sl ([.ref o])).length) Slot.unset).toArray = ls at hl ⊢
  have hl : lv_has ls 1 [(0, .ref o)] := hl
  refine lv_aload_n hx hb dY1_flip_0 rfl (lv_at hl 0 rfl) ?_
  refine lv_iconst (v := nI 0) hx hb dY1_flip_1 (by decide +kernel) ?_
  refine va_put (D := (dC, dI)) (ci := 1) (v := .int (nI 0)) (ty := .int) (C := RY1) (T := TY1) (N := 8) hx hb hts (by decide +kernel) tyY1 tyY1_ok nmY1 hown hK hP hD hS 0 rfl rfl 0 (by decide) (hts (.fieldLink RY1 36 "CoefTurnsModel" "thrown" "I") (by decide +kernel)) (fun _ h9 => h9) rfl (by decide +kernel) rfl rfl (Nat.le_of_ble_eq_true rfl) dY1_flip_2 (fun H locs hP hD hS => ?_)
  have hP : va_P (dC, dI) vwCm [(o, .inr (1, [.int (nI 0), .int (nI w), .int (nI h), .int (nI kw), .int (nI kh), .ref b1, .ref b2, .ref b3])), (b1, .inl (cC, 4096, .inl f)), (b2, .inl (cD, 4096, .inl g)), (b3, .inl (cE, 4096, .inl md))] H := hP
  have hD : va_D A [(o, .inr (1, [.int (nI 0), .int (nI w), .int (nI h), .int (nI kw), .int (nI kh), .ref b1, .ref b2, .ref b3])), (b1, .inl (cC, 4096, .inl f)), (b2, .inl (cD, 4096, .inl g)), (b3, .inl (cE, 4096, .inl md))] := hD
  refine lv_aload_n hx hb dY1_flip_5 rfl (lv_at hl 0 rfl) ?_
  have hPc := hP.sub (ws' := [(o, .inr (1, [.int (nI 0), .int (nI w), .int (nI h), .int (nI kw), .int (nI kh), .ref b1, .ref b2, .ref b3])), (b1, .inl (cC, 4096, .inl f)), (b2, .inl (cD, 4096, .inl g)), (b3, .inl (cE, 4096, .inl md))]) [0, 1, 2, 3] rfl
  have hKc := hK.sub (tys' := [(cC, .int), (cD, .int), (cE, .int)]) [0, 1, 2] rfl
  have hDc := hD.sub (ws' := [(o, .inr (1, [.int (nI 0), .int (nI w), .int (nI h), .int (nI kw), .int (nI kh), .ref b1, .ref b2, .ref b3])), (b1, .inl (cC, 4096, .inl f)), (b2, .inl (cD, 4096, .inl g)), (b3, .inl (cE, 4096, .inl md))]) [0, 1, 2, 3] (by decide) rfl
  have hFc := va_free (wc := [(o, .inr (1, [.int (nI 0), .int (nI w), .int (nI h), .int (nI kw), .int (nI kh), .ref b1, .ref b2, .ref b3])), (b1, .inl (cC, 4096, .inl f)), (b2, .inl (cD, 4096, .inl g)), (b3, .inl (cE, 4096, .inl md))]) hD hS hA [0, 1, 2, 3] rfl
  refine va_callv (va_runV (As := []) (rest := []) ⟨hx, hb, hml, hown, hts⟩ (kY1_flipAll l dC dI H.size o b1 b2 b3 cC cD cE f g md (nI 0) w h kw kh (by omega) (by omega) (by omega) (by omega)) (cwV 0 hts gY1_flip_Y1_flipAll rfl rfl rfl (by decide +kernel) ⟨Nat.le_of_ble_eq_true rfl, Nat.le_of_ble_eq_true rfl⟩) ⟨fun a U g mk q => by obtain ⟨q0, q1, qP, qK, qD⟩ := q; exact ⟨q0, q1, qP, va_K.moved (u := U) (U := U.calling g mk a) (Vm.Alike.refl U.vm) qK, qD⟩, va_recv hKc hPc (ci := 1) (q0 := 0) rfl rfl, fun U hU hW => ⟨rfl, by rw [hU], by rw [hU]; exact hPc, va_K.moved hW.alike hKc, hDc.weaken (fun _ _ _ _ => trivial)⟩⟩ rfl rfl hl.1 rfl (lv_room (Nat.le_of_ble_eq_true rfl)) dY1_flip_6 ⟨Nat.le_of_ble_eq_true rfl, Nat.le_of_ble_eq_true rfl⟩) hS (fun q _ h => hFc q h) hFc (fun u6 t H1 locs ht hvm w6 hB hz1 hk1 hS => ?_)
  obtain ⟨hP1, -, hD1⟩ := hB
  rw [ht] at hP1
  try dsimp only at w6
  obtain ⟨hP, hD⟩ := va_join (wr := []) (w1 := [(o, .inr (1, [.int (nI 0), .int (nI w), .int (nI h), .int (nI kw), .int (nI kh), .ref b1, .ref b2, .ref b3])), (b1, .inl (cC, 4096, .inl u6.1)), (b2, .inl (cD, 4096, .inl g)), (b3, .inl (cE, 4096, .inl u6.2))]) hP hD [0, 1, 2, 3] [] rfl rfl (by decide) (by decide) hk1 hFc hP1 hD1
  generalize H1 = H at hP hS ⊢
  have hP : va_P (dC, dI) vwCm [(o, .inr (1, [.int (nI 0), .int (nI w), .int (nI h), .int (nI kw), .int (nI kh), .ref b1, .ref b2, .ref b3])), (b1, .inl (cC, 4096, .inl u6.1)), (b2, .inl (cD, 4096, .inl g)), (b3, .inl (cE, 4096, .inl u6.2))] H := hP
  have hD : va_D A [(o, .inr (1, [.int (nI 0), .int (nI w), .int (nI h), .int (nI kw), .int (nI kh), .ref b1, .ref b2, .ref b3])), (b1, .inl (cC, 4096, .inl u6.1)), (b2, .inl (cD, 4096, .inl g)), (b3, .inl (cE, 4096, .inl u6.2))] := hD
  have hP9 := hP.sub (ws' := [(o, .inr (1, [.int (nI 0), .int (nI w), .int (nI h), .int (nI kw), .int (nI kh), .ref b1, .ref b2, .ref b3])), (b1, .inl (cC, 4096, .inl u6.1)), (b2, .inl (cD, 4096, .inl g)), (b3, .inl (cE, 4096, .inl u6.2))]) [0, 1, 2, 3] rfl
  have hD9 := hD.sub (ws' := [(o, .inr (1, [.int (nI 0), .int (nI w), .int (nI h), .int (nI kw), .int (nI kh), .ref b1, .ref b2, .ref b3])), (b1, .inl (cC, 4096, .inl u6.1)), (b2, .inl (cD, 4096, .inl g)), (b3, .inl (cE, 4096, .inl u6.2))]) [0, 1, 2, 3] (by decide) rfl
  exact W.vret hx hb hr (fun t ht hW => ⟨⟨u6, rfl, w6, by rw [ht]; exact hP9, va_K.moved hW.alike hK, hD9⟩, hS.F ht⟩) hS.2.2 dY1_flip_9
set_option maxHeartbeats 4000000 in
set_option maxRecDepth 100000 in
/-- Y1_fill -/
theorem kY1_fill (l : Launch) (dC : Nat → ClassId) (dI : Nat → Nat → Nat) (sz : Nat) (o b1 b2 b3 : Nat) (cC cD cE : ClassId) (f g md : Nat → Int32) (th : Int32) (w h kw kh : Nat) (seed : Int32) (hw : w ≤ 8) (hh : h ≤ 8) : Met l yY1_fill wsY1_fill ({ frames := 1, cells := 0, slots := 0, locals := 21 }) (va_Pc [.ref o, .int seed] (fun U => U.heap.size = sz ∧ va_P (dC, dI) vwCm [(o, .inr (1, [.int th, .int (nI w), .int (nI h), .int (nI kw), .int (nI kh), .ref b1, .ref b2, .ref b3])), (b1, .inl (cC, 4096, .inl f)), (b2, .inl (cD, 4096, .inl g)), (b3, .inl (cE, 4096, .inl md))] U.heap ∧ va_K (dC, dI) vwCm [(cC, .int), (cD, .int), (cE, .int)] U ∧ va_D (fun _ => True) [(o, .inr (1, [.int th, .int (nI w), .int (nI h), .int (nI kw), .int (nI kh), .ref b1, .ref b2, .ref b3])), (b1, .inl (cC, 4096, .inl f)), (b2, .inl (cD, 4096, .inl g)), (b3, .inl (cE, 4096, .inl md))])) (va_Qv (fun u : Nat → Int32 => cf_Ag w h (cf_V u) (cf_V (cf_fil seed))) (fun (u : Nat → Int32) (t : State) => va_P (dC, dI) vwCm [(o, .inr (1, [.int (nI 0), .int (nI w), .int (nI h), .int (nI kw), .int (nI kh), .ref b1, .ref b2, .ref b3])), (b1, .inl (cC, 4096, .inl u)), (b2, .inl (cD, 4096, .inl g)), (b3, .inl (cE, 4096, .inl md))] t.heap ∧ va_K (dC, dI) vwCm [(cC, .int), (cD, .int), (cE, .int)] t ∧ va_D (va_A [(o, .inr (1, [.int th, .int (nI w), .int (nI h), .int (nI kw), .int (nI kh), .ref b1, .ref b2, .ref b3])), (b1, .inl (cC, 4096, .inl f)), (b2, .inl (cD, 4096, .inl g)), (b3, .inl (cE, 4096, .inl md))] sz) [(o, .inr (1, [.int (nI 0), .int (nI w), .int (nI h), .int (nI kw), .int (nI kh), .ref b1, .ref b2, .ref b3])), (b1, .inl (cC, 4096, .inl u)), (b2, .inl (cD, 4096, .inl g)), (b3, .inl (cE, 4096, .inl md))]) (va_A [(o, .inr (1, [.int th, .int (nI w), .int (nI h), .int (nI kw), .int (nI kh), .ref b1, .ref b2, .ref b3])), (b1, .inl (cC, 4096, .inl f)), (b2, .inl (cD, 4096, .inl g)), (b3, .inl (cE, 4096, .inl md))] sz)) 0 0 (va_A [(o, .inr (1, [.int th, .int (nI w), .int (nI h), .int (nI kw), .int (nI kh), .ref b1, .ref b2, .ref b3])), (b1, .inl (cC, 4096, .inl f)), (b2, .inl (cD, 4096, .inl g)), (b3, .inl (cE, 4096, .inl md))] sz) := by
  refine Met.ofW (cc := cY1_fill) (maxL := 8) (ret := none) (by decide) rfl ?_
  intro p e s m args below meth c s₁ B hml hv
  obtain ⟨rfl, hsz, hP, hK, hD0⟩ := hv
  have hx := B.exec
  have hb := B.bytes
  have hr := B.returns
  have hts := atoms_spec (ws := wsY1_fill) B.pre
  have hown : s.vm.findClass RY1 = some m.cls := findClass_of_methodNamed B.named
  have hlocks := B.notSynchronized
  subst hsz
  have hD := hD0.self (sz := s.heap.size)
  generalize hAe : va_A [(o, .inr (1, [.int th, .int (nI w), .int (nI h), .int (nI kw), .int (nI kh), .ref b1, .ref b2, .ref b3])), (b1, .inl (cC, 4096, .inl f)), (b2, .inl (cD, 4096, .inl g)), (b3, .inl (cE, 4096, .inl md))] s.heap.size = A at hD ⊢
  have hA : ∀ q : Nat, s.heap.size ≤ q → A q := fun q h => by rw [← hAe]; exact Or.inr h
  have hS : va_S A s.heap s.heap [] := va_S.rf
  have hP : va_P (dC, dI) vwCm [(o, .inr (1, [.int th, .int (nI w), .int (nI h), .int (nI kw), .int (nI kh), .ref b1, .ref b2, .ref b3])), (b1, .inl (cC, 4096, .inl f)), (b2, .inl (cD, 4096, .inl g)), (b3, .inl (cE, 4096, .inl md))] s.heap := hP
  have hl := lv_entry ([.ref o, .int seed]) (n := 8) (Nat.le_of_ble_eq_true rfl)
  rw [lg_entry_eq]
  generalize (lg_sl ([.ref o, .int seed]) ++ List.replicate (8 - (lg_sl ([.ref o, .int seed])).length) Slot.unset).toArray = ls at hl ⊢
  have hl : lv_has ls 8 [(0, .ref o), (1, .int seed)] := hl
  refine lv_aload_n hx hb dY1_fill_0 rfl (lv_at hl 0 rfl) ?_
  refine lv_iconst (v := nI 0) hx hb dY1_fill_1 (by decide +kernel) ?_
  refine va_put (D := (dC, dI)) (ci := 1) (v := .int (nI 0)) (ty := .int) (C := RY1) (T := TY1) (N := 8) hx hb hts (by decide +kernel) tyY1 tyY1_ok nmY1 hown hK hP hD hS 0 rfl rfl 0 (by decide) (hts (.fieldLink RY1 36 "CoefTurnsModel" "thrown" "I") (by decide +kernel)) (fun _ h9 => h9) rfl (by decide +kernel) rfl rfl (Nat.le_of_ble_eq_true rfl) dY1_fill_2 (fun H locs hP hD hS => ?_)
  have hP : va_P (dC, dI) vwCm [(o, .inr (1, [.int (nI 0), .int (nI w), .int (nI h), .int (nI kw), .int (nI kh), .ref b1, .ref b2, .ref b3])), (b1, .inl (cC, 4096, .inl f)), (b2, .inl (cD, 4096, .inl g)), (b3, .inl (cE, 4096, .inl md))] H := hP
  have hD : va_D A [(o, .inr (1, [.int (nI 0), .int (nI w), .int (nI h), .int (nI kw), .int (nI kh), .ref b1, .ref b2, .ref b3])), (b1, .inl (cC, 4096, .inl f)), (b2, .inl (cD, 4096, .inl g)), (b3, .inl (cE, 4096, .inl md))] := hD
  refine lv_iconst (v := nI 0) hx hb dY1_fill_5 (by decide +kernel) ?_
  refine lv_istore_n (lv' := [(2, .int (nI 0)), (0, .ref o), (1, .int seed)]) hx hb dY1_fill_6 rfl hl (by decide) rfl (fun ls hl => ?_)
  have lp7 : ∀ (n7 : Nat) (y0 : Nat) (m0 : Nat → Int32), y0 ≤ h → h < y0 + n7 → cf_dn w y0 0 0 m0 (cf_V (cf_fil seed)) → ∀ (H : Heap) (locs : List Loc), va_P (dC, dI) vwCm [(o, .inr (1, [.int (nI 0), .int (nI w), .int (nI h), .int (nI kw), .int (nI kh), .ref b1, .ref b2, .ref b3])), (b1, .inl (cC, 4096, .inl m0)), (b2, .inl (cD, 4096, .inl g)), (b3, .inl (cE, 4096, .inl md))] H → va_D A [(o, .inr (1, [.int (nI 0), .int (nI w), .int (nI h), .int (nI kw), .int (nI kh), .ref b1, .ref b2, .ref b3])), (b1, .inl (cC, 4096, .inl m0)), (b2, .inl (cD, 4096, .inl g)), (b3, .inl (cE, 4096, .inl md))] → va_S A s.heap H locs → ∀ (ls : Array Slot), lv_has ls 8 [(0, .ref o), (1, .int seed), (2, .int (nI y0))] → W p l e (headSpec wsY1_fill ({ frames := 1, cells := 0, slots := 0, locals := 21 })).room s m ([.ref o, .int seed] : List Value).toArray below meth c H locs 0 0 (MQ below (va_Qv (fun u : Nat → Int32 => cf_Ag w h (cf_V u) (cf_V (cf_fil seed))) (fun (u : Nat → Int32) (t : State) => va_P (dC, dI) vwCm [(o, .inr (1, [.int (nI 0), .int (nI w), .int (nI h), .int (nI kw), .int (nI kh), .ref b1, .ref b2, .ref b3])), (b1, .inl (cC, 4096, .inl u)), (b2, .inl (cD, 4096, .inl g)), (b3, .inl (cE, 4096, .inl md))] t.heap ∧ va_K (dC, dI) vwCm [(cC, .int), (cD, .int), (cE, .int)] t ∧ va_D A [(o, .inr (1, [.int (nI 0), .int (nI w), .int (nI h), .int (nI kw), .int (nI kh), .ref b1, .ref b2, .ref b3])), (b1, .inl (cC, 4096, .inl u)), (b2, .inl (cD, 4096, .inl g)), (b3, .inl (cE, 4096, .inl md))]) A) ([.ref o, .int seed] : List Value).toArray s 0 0 A) (F0 m 7 ls []) := by
    intro n7
    induction n7 with
    | zero => intro y0 m0 h1 h2; exact absurd h2 (by omega)
    | succ n7 ih7 =>
      intro y0 m0 hk7 hn7 hI H locs hP hD hS ls hl
      refine lv_iload_n hx hb dY1_fill_7 rfl (lv_at hl 2 rfl) ?_
      refine lv_aload_n hx hb dY1_fill_8 rfl (lv_at hl 0 rfl) ?_
      refine va_get (D := (dC, dI)) (ci := 1) (v := .int (nI h)) (C := RY1) (T := TY1) (N := 8) hx hb hts (by decide +kernel) hown hK hP 0 rfl rfl 2 (by decide) (hts (.fieldLink RY1 27 "CoefTurnsModel" "h" "I") (by decide +kernel)) (fun _ h9 => h9) rfl dY1_fill_9 ?_
      refine lv_icmp_ge (tgt := 108) hx hb dY1_fill_12 (by decide) (fun c12 => ?_) (fun c12 => ?_)
      · skip
        have c12 := (nI_leI (a := h) (b := y0) (by omega) (by omega)).mp c12
        have hP9 := hP.sub (ws' := [(o, .inr (1, [.int (nI 0), .int (nI w), .int (nI h), .int (nI kw), .int (nI kh), .ref b1, .ref b2, .ref b3])), (b1, .inl (cC, 4096, .inl m0)), (b2, .inl (cD, 4096, .inl g)), (b3, .inl (cE, 4096, .inl md))]) [0, 1, 2, 3] rfl
        have hD9 := hD.sub (ws' := [(o, .inr (1, [.int (nI 0), .int (nI w), .int (nI h), .int (nI kw), .int (nI kh), .ref b1, .ref b2, .ref b3])), (b1, .inl (cC, 4096, .inl m0)), (b2, .inl (cD, 4096, .inl g)), (b3, .inl (cE, 4096, .inl md))]) [0, 1, 2, 3] (by decide) rfl
        exact W.vret hx hb hr (fun t ht hW => ⟨⟨m0, rfl, (by have e : y0 = h := (by omega); rw [e] at hI; exact cf_dn_e hI), by rw [ht]; exact hP9, va_K.moved hW.alike hK, hD9⟩, hS.F ht⟩) hS.2.2 dY1_fill_108
      · skip
        have c12 := mt (nI_leI (a := h) (b := y0) (by omega) (by omega)).mpr c12
        refine lv_iconst (v := nI 0) hx hb dY1_fill_15 (by decide +kernel) ?_
        refine lv_istore_n (lv' := [(3, .int (nI 0)), (0, .ref o), (1, .int seed), (2, .int (nI y0))]) hx hb dY1_fill_16 rfl hl (by decide) rfl (fun ls hl => ?_)
        have lp17 : ∀ (n17 : Nat) (x0 : Nat) (m1 : Nat → Int32), x0 ≤ w → w < x0 + n17 → cf_dn w y0 x0 0 m1 (cf_V (cf_fil seed)) → ∀ (H : Heap) (locs : List Loc), va_P (dC, dI) vwCm [(o, .inr (1, [.int (nI 0), .int (nI w), .int (nI h), .int (nI kw), .int (nI kh), .ref b1, .ref b2, .ref b3])), (b1, .inl (cC, 4096, .inl m1)), (b2, .inl (cD, 4096, .inl g)), (b3, .inl (cE, 4096, .inl md))] H → va_D A [(o, .inr (1, [.int (nI 0), .int (nI w), .int (nI h), .int (nI kw), .int (nI kh), .ref b1, .ref b2, .ref b3])), (b1, .inl (cC, 4096, .inl m1)), (b2, .inl (cD, 4096, .inl g)), (b3, .inl (cE, 4096, .inl md))] → va_S A s.heap H locs → ∀ (ls : Array Slot), lv_has ls 8 [(0, .ref o), (1, .int seed), (2, .int (nI y0)), (3, .int (nI x0))] → W p l e (headSpec wsY1_fill ({ frames := 1, cells := 0, slots := 0, locals := 21 })).room s m ([.ref o, .int seed] : List Value).toArray below meth c H locs 0 0 (MQ below (va_Qv (fun u : Nat → Int32 => cf_Ag w h (cf_V u) (cf_V (cf_fil seed))) (fun (u : Nat → Int32) (t : State) => va_P (dC, dI) vwCm [(o, .inr (1, [.int (nI 0), .int (nI w), .int (nI h), .int (nI kw), .int (nI kh), .ref b1, .ref b2, .ref b3])), (b1, .inl (cC, 4096, .inl u)), (b2, .inl (cD, 4096, .inl g)), (b3, .inl (cE, 4096, .inl md))] t.heap ∧ va_K (dC, dI) vwCm [(cC, .int), (cD, .int), (cE, .int)] t ∧ va_D A [(o, .inr (1, [.int (nI 0), .int (nI w), .int (nI h), .int (nI kw), .int (nI kh), .ref b1, .ref b2, .ref b3])), (b1, .inl (cC, 4096, .inl u)), (b2, .inl (cD, 4096, .inl g)), (b3, .inl (cE, 4096, .inl md))]) A) ([.ref o, .int seed] : List Value).toArray s 0 0 A) (F0 m 17 ls []) := by
          intro n17
          induction n17 with
          | zero => intro x0 m1 h1 h2; exact absurd h2 (by omega)
          | succ n17 ih17 =>
            intro x0 m1 hk17 hn17 hI1 H locs hP hD hS ls hl
            refine lv_iload_n hx hb dY1_fill_17 rfl (lv_at hl 3 rfl) ?_
            refine lv_aload_n hx hb dY1_fill_18 rfl (lv_at hl 0 rfl) ?_
            refine va_get (D := (dC, dI)) (ci := 1) (v := .int (nI w)) (C := RY1) (T := TY1) (N := 8) hx hb hts (by decide +kernel) hown hK hP 0 rfl rfl 1 (by decide) (hts (.fieldLink RY1 23 "CoefTurnsModel" "w" "I") (by decide +kernel)) (fun _ h9 => h9) rfl dY1_fill_19 ?_
            refine lv_icmp_ge (tgt := 102) hx hb dY1_fill_22 (by decide) (fun c22 => ?_) (fun c22 => ?_)
            · skip
              have c22 := (nI_leI (a := w) (b := x0) (by omega) (by omega)).mp c22
              refine lv_iinc (v := nI (y0 + 1)) (lv' := [(2, .int (nI (y0 + 1))), (0, .ref o), (1, .int seed), (3, .int (nI x0))]) hx hb dY1_fill_102 hl (k := 2) rfl (by rw [← nI_add]; rfl) (by decide) rfl (fun ls hl => ?_)
              refine lv_goto (tgt := 7) hx hb dY1_fill_105 (by decide) ?_
              exact ih7 (y0 + 1) m1 (by omega) (by omega) (cf_dn_r hI1 (by omega)) H locs hP hD hS ls (lv_sub hl [1, 2, 0] rfl)
            · skip
              have c22 := mt (nI_leI (a := w) (b := x0) (by omega) (by omega)).mpr c22
              refine lv_iconst (v := nI 0) hx hb dY1_fill_25 (by decide +kernel) ?_
              refine lv_istore (lv' := [(4, .int (nI 0)), (0, .ref o), (1, .int seed), (2, .int (nI y0)), (3, .int (nI x0))]) hx hb dY1_fill_26 hl (by decide) rfl (fun ls hl => ?_)
              have lp28 : ∀ (n28 : Nat) (p0 : Nat) (m2 : Nat → Int32), p0 ≤ 64 → 64 < p0 + n28 → cf_dn w y0 x0 p0 m2 (cf_V (cf_fil seed)) → ∀ (H : Heap) (locs : List Loc), va_P (dC, dI) vwCm [(o, .inr (1, [.int (nI 0), .int (nI w), .int (nI h), .int (nI kw), .int (nI kh), .ref b1, .ref b2, .ref b3])), (b1, .inl (cC, 4096, .inl m2)), (b2, .inl (cD, 4096, .inl g)), (b3, .inl (cE, 4096, .inl md))] H → va_D A [(o, .inr (1, [.int (nI 0), .int (nI w), .int (nI h), .int (nI kw), .int (nI kh), .ref b1, .ref b2, .ref b3])), (b1, .inl (cC, 4096, .inl m2)), (b2, .inl (cD, 4096, .inl g)), (b3, .inl (cE, 4096, .inl md))] → va_S A s.heap H locs → ∀ (ls : Array Slot), lv_has ls 8 [(0, .ref o), (1, .int seed), (2, .int (nI y0)), (3, .int (nI x0)), (4, .int (nI p0))] → W p l e (headSpec wsY1_fill ({ frames := 1, cells := 0, slots := 0, locals := 21 })).room s m ([.ref o, .int seed] : List Value).toArray below meth c H locs 0 0 (MQ below (va_Qv (fun u : Nat → Int32 => cf_Ag w h (cf_V u) (cf_V (cf_fil seed))) (fun (u : Nat → Int32) (t : State) => va_P (dC, dI) vwCm [(o, .inr (1, [.int (nI 0), .int (nI w), .int (nI h), .int (nI kw), .int (nI kh), .ref b1, .ref b2, .ref b3])), (b1, .inl (cC, 4096, .inl u)), (b2, .inl (cD, 4096, .inl g)), (b3, .inl (cE, 4096, .inl md))] t.heap ∧ va_K (dC, dI) vwCm [(cC, .int), (cD, .int), (cE, .int)] t ∧ va_D A [(o, .inr (1, [.int (nI 0), .int (nI w), .int (nI h), .int (nI kw), .int (nI kh), .ref b1, .ref b2, .ref b3])), (b1, .inl (cC, 4096, .inl u)), (b2, .inl (cD, 4096, .inl g)), (b3, .inl (cE, 4096, .inl md))]) A) ([.ref o, .int seed] : List Value).toArray s 0 0 A) (F0 m 28 ls []) := by
                intro n28
                induction n28 with
                | zero => intro p0 m2 h1 h2; exact absurd h2 (by omega)
                | succ n28 ih28 =>
                  intro p0 m2 hk28 hn28 hI2 H locs hP hD hS ls hl
                  refine lv_iload hx hb dY1_fill_28 (lv_at hl 4 rfl) ?_
                  refine lv_bipush (v := nI 64) hx hb dY1_fill_30 (by decide +kernel) ?_
                  refine lv_icmp_ge (tgt := 96) hx hb dY1_fill_32 (by decide) (fun c32 => ?_) (fun c32 => ?_)
                  · skip
                    have c32 := (nI_leI (a := 64) (b := p0) (by omega) (by omega)).mp c32
                    refine lv_iinc (v := nI (x0 + 1)) (lv' := [(3, .int (nI (x0 + 1))), (0, .ref o), (1, .int seed), (2, .int (nI y0)), (4, .int (nI p0))]) hx hb dY1_fill_96 hl (k := 3) rfl (by rw [← nI_add]; rfl) (by decide) rfl (fun ls hl => ?_)
                    refine lv_goto (tgt := 17) hx hb dY1_fill_99 (by decide) ?_
                    exact ih17 (x0 + 1) m2 (by omega) (by omega) (cf_dn_b hI2 (by omega)) H locs hP hD hS ls (lv_sub hl [1, 2, 3, 0] rfl)
                  · skip
                    have c32 := mt (nI_leI (a := 64) (b := p0) (by omega) (by omega)).mpr c32
                    refine lv_iload_n hx hb dY1_fill_35 rfl (lv_at hl 3 rfl) ?_
                    refine lv_iload_n hx hb dY1_fill_36 rfl (lv_at hl 2 rfl) ?_
                    refine vp_callSi (W.runS (As := [.int (nI x0), .int (nI y0)]) (rest := []) ⟨hx, hb, hml, hown, hts⟩ (kY1_block l x0 y0) (va_cwS 2 hts gY1_fill_Y1_block rfl rfl rfl (by decide +kernel) ⟨Nat.le_of_ble_eq_true rfl, Nat.le_of_ble_eq_true rfl⟩) ⟨fun a U g mk q => q, fun U hU hW => ⟨rfl, trivial⟩⟩ rfl rfl hl.1 rfl (lv_room (Nat.le_of_ble_eq_true rfl)) dY1_fill_37 ⟨Nat.le_of_ble_eq_true rfl, Nat.le_of_ble_eq_true rfl⟩) (fun r37 w37 => ?_)
                    subst w37
                    refine lv_iload hx hb dY1_fill_40 (lv_at hl 4 rfl) ?_
                    refine lv_iadd hx hb dY1_fill_42 ?_
                    refine cf_top (nI_add _ _) ?_
                    refine lv_istore (lv' := [(5, .int (nI (64 * (8 * y0 + x0) + p0))), (0, .ref o), (1, .int seed), (2, .int (nI y0)), (3, .int (nI x0)), (4, .int (nI p0))]) hx hb dY1_fill_43 hl (by decide) rfl (fun ls hl => ?_)
                    refine lv_iload_n hx hb dY1_fill_45 rfl (lv_at hl 2 rfl) ?_
                    refine lv_i2l hx hb dY1_fill_46 rfl ?_
                    refine lv_iload hx hb dY1_fill_47 (lv_at hl 0 rfl) ?_
                    refine lv_i2l hx hb dY1_fill_49 rfl ?_
                    refine lv_ldc2 (v := 40503) hx hb hown (hts (.constantLong RY1 51 40503) (by decide +kernel)) dY1_fill_50 ?_
                    refine lv_lmul hx hb dY1_fill_53 ?_
                    refine lv_ladd hx hb dY1_fill_54 ?_
                    refine lv_ldc2 (v := 4294967295) hx hb hown (hts (.constantLong RY1 53 4294967295) (by decide +kernel)) dY1_fill_55 ?_
                    refine lv_land hx hb dY1_fill_58 ?_
                    refine lv_ldc2 (v := 2654435761) hx hb hown (hts (.constantLong RY1 55 2654435761) (by decide +kernel)) dY1_fill_59 ?_
                    refine lv_lmul hx hb dY1_fill_62 ?_
                    refine lv_ldc2 (v := 4294967295) hx hb hown (hts (.constantLong RY1 53 4294967295) (by decide +kernel)) dY1_fill_63 ?_
                    refine lv_land hx hb dY1_fill_66 ?_
                    refine lv_lstore (lv' := [(6, .long ((((seed.toInt64 + (((nI (64 * (8 * y0 + x0) + p0)).toInt64) * 40503)) &&& 4294967295) * 2654435761) &&& 4294967295)), (5, .int (nI (64 * (8 * y0 + x0) + p0))), (0, .ref o), (1, .int seed), (2, .int (nI y0)), (3, .int (nI x0)), (4, .int (nI p0))]) hx hb dY1_fill_67 hl (by decide) rfl (fun ls hl => ?_)
                    refine lv_aload_n hx hb dY1_fill_69 rfl (lv_at hl 2 rfl) ?_
                    refine va_get (D := (dC, dI)) (ci := 1) (v := .ref b1) (C := RY1) (T := TY1) (N := 8) hx hb hts (by decide +kernel) hown hK hP 0 rfl rfl 5 (by decide) (hts (.fieldLink RY1 7 "CoefTurnsModel" "plane" "[I") (by decide +kernel)) (fun _ h9 => h9) rfl dY1_fill_70 ?_
                    refine lv_iload hx hb dY1_fill_73 (lv_at hl 1 rfl) ?_
                    refine lv_lload hx hb dY1_fill_75 (lv_at hl 0 rfl) ?_
                    refine lv_bipush (v := nI 20) hx hb dY1_fill_77 (by decide +kernel) ?_
                    refine lv_lshr hx hb dY1_fill_79 rfl ?_
                    refine lv_ldc2 (v := 2047) hx hb hown (hts (.constantLong RY1 57 2047) (by decide +kernel)) dY1_fill_80 ?_
                    refine lv_lrem hx hb dY1_fill_83 (by decide) ?_
                    refine lv_l2i hx hb dY1_fill_84 rfl ?_
                    refine lv_sipush (v := nI 1023) hx hb dY1_fill_85 (by decide +kernel) ?_
                    refine lv_isub hx hb dY1_fill_88 ?_
                    refine cf_iast (D := (dC, dI)) hx hb hK hP hD hS 1 0 rfl rfl (k := 64 * (8 * y0 + x0) + p0) (by omega) (by decide) dY1_fill_89 (fun H locs hP hD hS => ?_)
                    have hP : va_P (dC, dI) vwCm [(o, .inr (1, [.int (nI 0), .int (nI w), .int (nI h), .int (nI kw), .int (nI kh), .ref b1, .ref b2, .ref b3])), (b1, .inl (cC, 4096, .inl (upd m2 (64 * (8 * y0 + x0) + p0) ((((((((seed.toInt64 + (((nI (64 * (8 * y0 + x0) + p0)).toInt64) * 40503)) &&& 4294967295) * 2654435761) &&& 4294967295) >>> ((nI 20).toInt64 &&& 63)) - (((((seed.toInt64 + (((nI (64 * (8 * y0 + x0) + p0)).toInt64) * 40503)) &&& 4294967295) * 2654435761) &&& 4294967295) >>> ((nI 20).toInt64 &&& 63)) / 2047 * 2047).toInt32) - (nI 1023))))), (b2, .inl (cD, 4096, .inl g)), (b3, .inl (cE, 4096, .inl md))] H := hP
                    have hD : va_D A [(o, .inr (1, [.int (nI 0), .int (nI w), .int (nI h), .int (nI kw), .int (nI kh), .ref b1, .ref b2, .ref b3])), (b1, .inl (cC, 4096, .inl (upd m2 (64 * (8 * y0 + x0) + p0) ((((((((seed.toInt64 + (((nI (64 * (8 * y0 + x0) + p0)).toInt64) * 40503)) &&& 4294967295) * 2654435761) &&& 4294967295) >>> ((nI 20).toInt64 &&& 63)) - (((((seed.toInt64 + (((nI (64 * (8 * y0 + x0) + p0)).toInt64) * 40503)) &&& 4294967295) * 2654435761) &&& 4294967295) >>> ((nI 20).toInt64 &&& 63)) / 2047 * 2047).toInt32) - (nI 1023))))), (b2, .inl (cD, 4096, .inl g)), (b3, .inl (cE, 4096, .inl md))] := hD
                    refine lv_iinc (v := nI (p0 + 1)) (lv' := [(4, .int (nI (p0 + 1))), (6, .long ((((seed.toInt64 + (((nI (64 * (8 * y0 + x0) + p0)).toInt64) * 40503)) &&& 4294967295) * 2654435761) &&& 4294967295)), (5, .int (nI (64 * (8 * y0 + x0) + p0))), (0, .ref o), (1, .int seed), (2, .int (nI y0)), (3, .int (nI x0))]) hx hb dY1_fill_90 hl (k := 6) rfl (by rw [← nI_add]; rfl) (by decide) rfl (fun ls hl => ?_)
                    refine lv_goto (tgt := 28) hx hb dY1_fill_93 (by decide) ?_
                    exact ih28 (p0 + 1) (upd m2 (64 * (8 * y0 + x0) + p0) ((((((((seed.toInt64 + (((nI (64 * (8 * y0 + x0) + p0)).toInt64) * 40503)) &&& 4294967295) * 2654435761) &&& 4294967295) >>> ((nI 20).toInt64 &&& 63)) - (((((seed.toInt64 + (((nI (64 * (8 * y0 + x0) + p0)).toInt64) * 40503)) &&& 4294967295) * 2654435761) &&& 4294967295) >>> ((nI 20).toInt64 &&& 63)) / 2047 * 2047).toInt32) - (nI 1023))) (by omega) (by omega) (cf_dn_s hI2 hw (by omega) (by omega) (cf_fiL_eq seed (by omega))) H locs hP hD hS ls (lv_sub hl [3, 4, 5, 6, 0] rfl)
              exact lp28 (64 + 1) 0 m1 (by omega) (by omega) hI1 H locs hP hD hS ls (lv_sub hl [1, 2, 3, 4, 0] rfl)
        exact lp17 (w + 1) 0 m0 (by omega) (by omega) hI H locs hP hD hS ls (lv_sub hl [1, 2, 3, 0] rfl)
  exact lp7 (h + 1) 0 f (by omega) (by omega) cf_dn_0 H locs hP hD hS ls (lv_sub hl [1, 2, 0] rfl)
