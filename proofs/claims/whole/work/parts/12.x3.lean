set_option maxHeartbeats 4000000 in
set_option maxRecDepth 100000 in
/-- X0_fill -/
theorem kX0_fill (l : Launch) (dC : Nat → ClassId) (dI : Nat → Nat → Nat) (sz : Nat) (h0 a1 a2 : Nat) (cA cB : ClassId) (f g : Nat → Int32) (w h kw kh : Nat) (seed : Int32) (hw : w ≤ 8) (hh : h ≤ 8) : Met l yX0_fill wsX0_fill ({ frames := 1, cells := 0, slots := 0, locals := 24 }) (va_Pc [.ref h0, .int seed] (fun U => U.heap.size = sz ∧ va_P (dC, dI) vwCm [(h0, .inr (0, [.ref a1, .ref a2, .int (nI w), .int (nI h), .int (nI kw), .int (nI kh)])), (a1, .inl (cA, 4096, .inl f)), (a2, .inl (cB, 4096, .inl g))] U.heap ∧ va_K (dC, dI) vwCm [(cA, .int), (cB, .int)] U ∧ va_D (fun _ => True) [(h0, .inr (0, [.ref a1, .ref a2, .int (nI w), .int (nI h), .int (nI kw), .int (nI kh)])), (a1, .inl (cA, 4096, .inl f)), (a2, .inl (cB, 4096, .inl g))])) (va_Qv (fun u : Nat → Int32 => cf_Ag w h (cf_V u) (cf_V (cf_fil seed))) (fun (u : Nat → Int32) (t : State) => va_P (dC, dI) vwCm [(h0, .inr (0, [.ref a1, .ref a2, .int (nI w), .int (nI h), .int (nI kw), .int (nI kh)])), (a1, .inl (cA, 4096, .inl u)), (a2, .inl (cB, 4096, .inl g))] t.heap ∧ va_K (dC, dI) vwCm [(cA, .int), (cB, .int)] t ∧ va_D (va_A [(h0, .inr (0, [.ref a1, .ref a2, .int (nI w), .int (nI h), .int (nI kw), .int (nI kh)])), (a1, .inl (cA, 4096, .inl f)), (a2, .inl (cB, 4096, .inl g))] sz) [(h0, .inr (0, [.ref a1, .ref a2, .int (nI w), .int (nI h), .int (nI kw), .int (nI kh)])), (a1, .inl (cA, 4096, .inl u)), (a2, .inl (cB, 4096, .inl g))]) (va_A [(h0, .inr (0, [.ref a1, .ref a2, .int (nI w), .int (nI h), .int (nI kw), .int (nI kh)])), (a1, .inl (cA, 4096, .inl f)), (a2, .inl (cB, 4096, .inl g))] sz)) 0 0 (va_A [(h0, .inr (0, [.ref a1, .ref a2, .int (nI w), .int (nI h), .int (nI kw), .int (nI kh)])), (a1, .inl (cA, 4096, .inl f)), (a2, .inl (cB, 4096, .inl g))] sz) := by
  refine Met.ofW (cc := cX0_fill) (maxL := 4) (ret := none) (by decide) rfl ?_
  intro p e s m args below meth c s₁ B hml hv
  obtain ⟨rfl, hsz, hP, hK, hD0⟩ := hv
  have hx := B.exec
  have hb := B.bytes
  have hr := B.returns
  have hts := atoms_spec (ws := wsX0_fill) B.pre
  have hown : s.vm.findClass RX0 = some m.cls := findClass_of_methodNamed B.named
  have hlocks := B.notSynchronized
  subst hsz
  have hD := hD0.self (sz := s.heap.size)
  generalize hAe : va_A [(h0, .inr (0, [.ref a1, .ref a2, .int (nI w), .int (nI h), .int (nI kw), .int (nI kh)])), (a1, .inl (cA, 4096, .inl f)), (a2, .inl (cB, 4096, .inl g))] s.heap.size = A at hD ⊢
  have hA : ∀ q : Nat, s.heap.size ≤ q → A q := fun q h => by rw [← hAe]; exact Or.inr h
  have hS : va_S A s.heap s.heap [] := va_S.rf
  have hP : va_P (dC, dI) vwCm [(h0, .inr (0, [.ref a1, .ref a2, .int (nI w), .int (nI h), .int (nI kw), .int (nI kh)])), (a1, .inl (cA, 4096, .inl f)), (a2, .inl (cB, 4096, .inl g))] s.heap := hP
  have hl := lv_entry ([.ref h0, .int seed]) (n := 4) (Nat.le_of_ble_eq_true rfl)
  rw [lg_entry_eq]
  generalize (lg_sl ([.ref h0, .int seed]) ++ List.replicate (4 - (lg_sl ([.ref h0, .int seed])).length) Slot.unset).toArray = ls at hl ⊢
  have hl : lv_has ls 4 [(0, .ref h0), (1, .int seed)] := hl
  refine lv_iconst (v := nI 0) hx hb dX0_fill_0 (by decide +kernel) ?_
  refine lv_istore_n (lv' := [(2, .int (nI 0)), (0, .ref h0), (1, .int seed)]) hx hb dX0_fill_1 rfl hl (by decide) rfl (fun ls hl => ?_)
  have lp2 : ∀ (n2 : Nat) (y0 : Nat) (fc : Nat → Int32), y0 ≤ h → h < y0 + n2 → cf_dn w y0 0 0 fc (cf_V (cf_fil seed)) → ∀ (H : Heap) (locs : List Loc), va_P (dC, dI) vwCm [(h0, .inr (0, [.ref a1, .ref a2, .int (nI w), .int (nI h), .int (nI kw), .int (nI kh)])), (a1, .inl (cA, 4096, .inl fc)), (a2, .inl (cB, 4096, .inl g))] H → va_D A [(h0, .inr (0, [.ref a1, .ref a2, .int (nI w), .int (nI h), .int (nI kw), .int (nI kh)])), (a1, .inl (cA, 4096, .inl fc)), (a2, .inl (cB, 4096, .inl g))] → va_S A s.heap H locs → ∀ (ls : Array Slot), lv_has ls 4 [(0, .ref h0), (1, .int seed), (2, .int (nI y0))] → W p l e (headSpec wsX0_fill ({ frames := 1, cells := 0, slots := 0, locals := 24 })).room s m ([.ref h0, .int seed] : List Value).toArray below meth c H locs 0 0 (MQ below (va_Qv (fun u : Nat → Int32 => cf_Ag w h (cf_V u) (cf_V (cf_fil seed))) (fun (u : Nat → Int32) (t : State) => va_P (dC, dI) vwCm [(h0, .inr (0, [.ref a1, .ref a2, .int (nI w), .int (nI h), .int (nI kw), .int (nI kh)])), (a1, .inl (cA, 4096, .inl u)), (a2, .inl (cB, 4096, .inl g))] t.heap ∧ va_K (dC, dI) vwCm [(cA, .int), (cB, .int)] t ∧ va_D A [(h0, .inr (0, [.ref a1, .ref a2, .int (nI w), .int (nI h), .int (nI kw), .int (nI kh)])), (a1, .inl (cA, 4096, .inl u)), (a2, .inl (cB, 4096, .inl g))]) A) ([.ref h0, .int seed] : List Value).toArray s 0 0 A) (F0 m 2 ls []) := by
    intro n2
    induction n2 with
    | zero => intro y0 fc h1 h2; exact absurd h2 (by omega)
    | succ n2 ih2 =>
      intro y0 fc hk2 hn2 hI H locs hP hD hS ls hl
      refine lv_iload_n hx hb dX0_fill_2 rfl (lv_at hl 2 rfl) ?_
      refine lv_aload_n hx hb dX0_fill_3 rfl (lv_at hl 0 rfl) ?_
      refine va_get (D := (dC, dI)) (ci := 0) (v := .int (nI h)) (C := RX0) (T := TX0) (N := 6) hx hb hts (by decide +kernel) hown hK hP 0 rfl rfl 3 (by decide) (hts (.fieldLink RX0 17 "CoefTurns" "height" "I") (by decide +kernel)) (fun _ h9 => h9) rfl dX0_fill_4 ?_
      refine lv_icmp_ge (tgt := 42) hx hb dX0_fill_7 (by decide) (fun c7 => ?_) (fun c7 => ?_)
      · skip
        have c7 := (nI_leI (a := h) (b := y0) (by omega) (by omega)).mp c7
        have hP9 := hP.sub (ws' := [(h0, .inr (0, [.ref a1, .ref a2, .int (nI w), .int (nI h), .int (nI kw), .int (nI kh)])), (a1, .inl (cA, 4096, .inl fc)), (a2, .inl (cB, 4096, .inl g))]) [0, 1, 2] rfl
        have hD9 := hD.sub (ws' := [(h0, .inr (0, [.ref a1, .ref a2, .int (nI w), .int (nI h), .int (nI kw), .int (nI kh)])), (a1, .inl (cA, 4096, .inl fc)), (a2, .inl (cB, 4096, .inl g))]) [0, 1, 2] (by decide) rfl
        exact W.vret hx hb hr (fun t ht hW => ⟨⟨fc, rfl, (by have e : y0 = h := (by omega); rw [e] at hI; exact cf_dn_e hI), by rw [ht]; exact hP9, va_K.moved hW.alike hK, hD9⟩, hS.F ht⟩) hS.2.2 dX0_fill_42
      · skip
        have c7 := mt (nI_leI (a := h) (b := y0) (by omega) (by omega)).mpr c7
        refine lv_iconst (v := nI 0) hx hb dX0_fill_10 (by decide +kernel) ?_
        refine lv_istore_n (lv' := [(3, .int (nI 0)), (0, .ref h0), (1, .int seed), (2, .int (nI y0))]) hx hb dX0_fill_11 rfl hl (by decide) rfl (fun ls hl => ?_)
        have lp12 : ∀ (n12 : Nat) (x0 : Nat) (fd : Nat → Int32), x0 ≤ w → w < x0 + n12 → cf_dn w y0 x0 0 fd (cf_V (cf_fil seed)) → ∀ (H : Heap) (locs : List Loc), va_P (dC, dI) vwCm [(h0, .inr (0, [.ref a1, .ref a2, .int (nI w), .int (nI h), .int (nI kw), .int (nI kh)])), (a1, .inl (cA, 4096, .inl fd)), (a2, .inl (cB, 4096, .inl g))] H → va_D A [(h0, .inr (0, [.ref a1, .ref a2, .int (nI w), .int (nI h), .int (nI kw), .int (nI kh)])), (a1, .inl (cA, 4096, .inl fd)), (a2, .inl (cB, 4096, .inl g))] → va_S A s.heap H locs → ∀ (ls : Array Slot), lv_has ls 4 [(0, .ref h0), (1, .int seed), (2, .int (nI y0)), (3, .int (nI x0))] → W p l e (headSpec wsX0_fill ({ frames := 1, cells := 0, slots := 0, locals := 24 })).room s m ([.ref h0, .int seed] : List Value).toArray below meth c H locs 0 0 (MQ below (va_Qv (fun u : Nat → Int32 => cf_Ag w h (cf_V u) (cf_V (cf_fil seed))) (fun (u : Nat → Int32) (t : State) => va_P (dC, dI) vwCm [(h0, .inr (0, [.ref a1, .ref a2, .int (nI w), .int (nI h), .int (nI kw), .int (nI kh)])), (a1, .inl (cA, 4096, .inl u)), (a2, .inl (cB, 4096, .inl g))] t.heap ∧ va_K (dC, dI) vwCm [(cA, .int), (cB, .int)] t ∧ va_D A [(h0, .inr (0, [.ref a1, .ref a2, .int (nI w), .int (nI h), .int (nI kw), .int (nI kh)])), (a1, .inl (cA, 4096, .inl u)), (a2, .inl (cB, 4096, .inl g))]) A) ([.ref h0, .int seed] : List Value).toArray s 0 0 A) (F0 m 12 ls []) := by
          intro n12
          induction n12 with
          | zero => intro x0 fd h1 h2; exact absurd h2 (by omega)
          | succ n12 ih12 =>
            intro x0 fd hk12 hn12 hI1 H locs hP hD hS ls hl
            refine lv_iload_n hx hb dX0_fill_12 rfl (lv_at hl 3 rfl) ?_
            refine lv_aload_n hx hb dX0_fill_13 rfl (lv_at hl 0 rfl) ?_
            refine va_get (D := (dC, dI)) (ci := 0) (v := .int (nI w)) (C := RX0) (T := TX0) (N := 6) hx hb hts (by decide +kernel) hown hK hP 0 rfl rfl 2 (by decide) (hts (.fieldLink RX0 13 "CoefTurns" "width" "I") (by decide +kernel)) (fun _ h9 => h9) rfl dX0_fill_14 ?_
            refine lv_icmp_ge (tgt := 36) hx hb dX0_fill_17 (by decide) (fun c17 => ?_) (fun c17 => ?_)
            · skip
              have c17 := (nI_leI (a := w) (b := x0) (by omega) (by omega)).mp c17
              refine lv_iinc (v := nI (y0 + 1)) (lv' := [(2, .int (nI (y0 + 1))), (0, .ref h0), (1, .int seed), (3, .int (nI x0))]) hx hb dX0_fill_36 hl (k := 2) rfl (by rw [← nI_add]; rfl) (by decide) rfl (fun ls hl => ?_)
              refine lv_goto (tgt := 2) hx hb dX0_fill_39 (by decide) ?_
              exact ih2 (y0 + 1) fd (by omega) (by omega) (cf_dn_r hI1 (by omega)) H locs hP hD hS ls (lv_sub hl [1, 2, 0] rfl)
            · skip
              have c17 := mt (nI_leI (a := w) (b := x0) (by omega) (by omega)).mpr c17
              refine lv_aload_n hx hb dX0_fill_20 rfl (lv_at hl 0 rfl) ?_
              refine lv_iload_n hx hb dX0_fill_21 rfl (lv_at hl 3 rfl) ?_
              refine lv_iload_n hx hb dX0_fill_22 rfl (lv_at hl 2 rfl) ?_
              refine vp_callSi (W.runS (As := [.int (nI x0), .int (nI y0)]) (rest := [.ref h0]) ⟨hx, hb, hml, hown, hts⟩ (kX0_blockStart l x0 y0) (va_cwS 2 hts gX0_fill_X0_blockStart rfl rfl rfl (by decide +kernel) ⟨Nat.le_of_ble_eq_true rfl, Nat.le_of_ble_eq_true rfl⟩) ⟨fun a U g mk q => q, fun U hU hW => ⟨rfl, trivial⟩⟩ rfl rfl hl.1 rfl (lv_room (Nat.le_of_ble_eq_true rfl)) dX0_fill_23 ⟨Nat.le_of_ble_eq_true rfl, Nat.le_of_ble_eq_true rfl⟩) (fun r23 w23 => ?_)
              subst w23
              refine lv_iload_n hx hb dX0_fill_26 rfl (lv_at hl 1 rfl) ?_
              have hPc := hP.sub (ws' := [(h0, .inr (0, [.ref a1, .ref a2, .int (nI w), .int (nI h), .int (nI kw), .int (nI kh)])), (a1, .inl (cA, 4096, .inl fd)), (a2, .inl (cB, 4096, .inl g))]) [0, 1, 2] rfl
              have hKc := hK.sub (tys' := [(cA, .int), (cB, .int)]) [0, 1] rfl
              have hDc := hD.sub (ws' := [(h0, .inr (0, [.ref a1, .ref a2, .int (nI w), .int (nI h), .int (nI kw), .int (nI kh)])), (a1, .inl (cA, 4096, .inl fd)), (a2, .inl (cB, 4096, .inl g))]) [0, 1, 2] (by decide) rfl
              have hFc := va_free (wc := [(h0, .inr (0, [.ref a1, .ref a2, .int (nI w), .int (nI h), .int (nI kw), .int (nI kh)])), (a1, .inl (cA, 4096, .inl fd)), (a2, .inl (cB, 4096, .inl g))]) hD hS hA [0, 1, 2] rfl
              refine va_callv (va_runV (As := [.int (nI (64 * (8 * y0 + x0))), .int seed]) (rest := []) ⟨hx, hb, hml, hown, hts⟩ (kX0_fillBlock l dC dI H.size h0 a1 a2 cA cB fd g w h kw kh (8 * y0 + x0) seed (by omega)) (cwV 2 hts gX0_fill_X0_fillBlock rfl rfl rfl (by decide +kernel) ⟨Nat.le_of_ble_eq_true rfl, Nat.le_of_ble_eq_true rfl⟩) ⟨fun a U g mk q => by obtain ⟨q0, q1, qP, qK, qD⟩ := q; exact ⟨q0, q1, qP, va_K.moved (u := U) (U := U.calling g mk a) (Vm.Alike.refl U.vm) qK, qD⟩, va_recv hKc hPc (ci := 0) (q0 := 0) rfl rfl, fun U hU hW => ⟨rfl, by rw [hU], by rw [hU]; exact hPc, va_K.moved hW.alike hKc, hDc.weaken (fun _ _ _ _ => trivial)⟩⟩ rfl rfl hl.1 rfl (lv_room (Nat.le_of_ble_eq_true rfl)) dX0_fill_27 ⟨Nat.le_of_ble_eq_true rfl, Nat.le_of_ble_eq_true rfl⟩) hS (fun q _ h => hFc q h) hFc (fun u27 t H1 locs ht hvm w27 hB hz1 hk1 hS => ?_)
              obtain ⟨hP1, -, hD1⟩ := hB
              rw [ht] at hP1
              try dsimp only at w27
              obtain ⟨hP, hD⟩ := va_join (wr := []) (w1 := [(h0, .inr (0, [.ref a1, .ref a2, .int (nI w), .int (nI h), .int (nI kw), .int (nI kh)])), (a1, .inl (cA, 4096, .inl u27)), (a2, .inl (cB, 4096, .inl g))]) hP hD [0, 1, 2] [] rfl rfl (by decide) (by decide) hk1 hFc hP1 hD1
              generalize H1 = H at hP hS ⊢
              have hP : va_P (dC, dI) vwCm [(h0, .inr (0, [.ref a1, .ref a2, .int (nI w), .int (nI h), .int (nI kw), .int (nI kh)])), (a1, .inl (cA, 4096, .inl u27)), (a2, .inl (cB, 4096, .inl g))] H := hP
              have hD : va_D A [(h0, .inr (0, [.ref a1, .ref a2, .int (nI w), .int (nI h), .int (nI kw), .int (nI kh)])), (a1, .inl (cA, 4096, .inl u27)), (a2, .inl (cB, 4096, .inl g))] := hD
              refine lv_iinc (v := nI (x0 + 1)) (lv' := [(3, .int (nI (x0 + 1))), (0, .ref h0), (1, .int seed), (2, .int (nI y0))]) hx hb dX0_fill_30 hl (k := 3) rfl (by rw [← nI_add]; rfl) (by decide) rfl (fun ls hl => ?_)
              refine lv_goto (tgt := 12) hx hb dX0_fill_33 (by decide) ?_
              exact ih12 (x0 + 1) u27 (by omega) (by omega) (cf_fb_dn hI1 hw (by omega) w27) H locs hP hD hS ls (lv_sub hl [1, 2, 3, 0] rfl)
        exact lp12 (w + 1) 0 fc (by omega) (by omega) hI H locs hP hD hS ls (lv_sub hl [1, 2, 3, 0] rfl)
  exact lp2 (h + 1) 0 f (by omega) (by omega) cf_dn_0 s.heap [] hP hD hS ls (lv_sub hl [1, 2, 0] rfl)
set_option maxHeartbeats 4000000 in
set_option maxRecDepth 100000 in
/-- X0_transpose -/
theorem kX0_transpose (l : Launch) (dC : Nat → ClassId) (dI : Nat → Nat → Nat) (sz : Nat) (h0 a1 a2 : Nat) (cA cB : ClassId) (f g : Nat → Int32) (w h kw kh : Nat) (hw : w ≤ 8) (hh : h ≤ 8) (hw1 : 1 ≤ w) (hh1 : 1 ≤ h) : Met l yX0_transpose wsX0_transpose ({ frames := 3, cells := 0, slots := 0, locals := 69 }) (va_Pc [.ref h0] (fun U => U.heap.size = sz ∧ va_P (dC, dI) vwCm [(h0, .inr (0, [.ref a1, .ref a2, .int (nI w), .int (nI h), .int (nI kw), .int (nI kh)])), (a1, .inl (cA, 4096, .inl f)), (a2, .inl (cB, 4096, .inl g))] U.heap ∧ va_K (dC, dI) vwCm [(cA, .int), (cB, .int)] U ∧ va_D (fun _ => True) [(h0, .inr (0, [.ref a1, .ref a2, .int (nI w), .int (nI h), .int (nI kw), .int (nI kh)])), (a1, .inl (cA, 4096, .inl f)), (a2, .inl (cB, 4096, .inl g))])) (va_Qv (fun u : Nat → Int32 => cf_Ag h w (cf_V u) (cf_tr (cf_V f))) (fun (u : Nat → Int32) (t : State) => va_P (dC, dI) vwCm [(h0, .inr (0, [.ref a1, .ref a2, .int (nI h), .int (nI w), .int (nI kw), .int (nI kh)])), (a1, .inl (cA, 4096, .inl u)), (a2, .inl (cB, 4096, .inl g))] t.heap ∧ va_K (dC, dI) vwCm [(cA, .int), (cB, .int)] t ∧ va_D (va_A [(h0, .inr (0, [.ref a1, .ref a2, .int (nI w), .int (nI h), .int (nI kw), .int (nI kh)])), (a1, .inl (cA, 4096, .inl f)), (a2, .inl (cB, 4096, .inl g))] sz) [(h0, .inr (0, [.ref a1, .ref a2, .int (nI h), .int (nI w), .int (nI kw), .int (nI kh)])), (a1, .inl (cA, 4096, .inl u)), (a2, .inl (cB, 4096, .inl g))]) (va_A [(h0, .inr (0, [.ref a1, .ref a2, .int (nI w), .int (nI h), .int (nI kw), .int (nI kh)])), (a1, .inl (cA, 4096, .inl f)), (a2, .inl (cB, 4096, .inl g))] sz)) 0 0 (va_A [(h0, .inr (0, [.ref a1, .ref a2, .int (nI w), .int (nI h), .int (nI kw), .int (nI kh)])), (a1, .inl (cA, 4096, .inl f)), (a2, .inl (cB, 4096, .inl g))] sz) := by
  refine Met.ofW (cc := cX0_transpose) (maxL := 4) (ret := none) (by decide) rfl ?_
  intro p e s m args below meth c s₁ B hml hv
  obtain ⟨rfl, hsz, hP, hK, hD0⟩ := hv
  have hx := B.exec
  have hb := B.bytes
  have hr := B.returns
  have hts := atoms_spec (ws := wsX0_transpose) B.pre
  have hown : s.vm.findClass RX0 = some m.cls := findClass_of_methodNamed B.named
  have hlocks := B.notSynchronized
  subst hsz
  have hD := hD0.self (sz := s.heap.size)
  generalize hAe : va_A [(h0, .inr (0, [.ref a1, .ref a2, .int (nI w), .int (nI h), .int (nI kw), .int (nI kh)])), (a1, .inl (cA, 4096, .inl f)), (a2, .inl (cB, 4096, .inl g))] s.heap.size = A at hD ⊢
  have hA : ∀ q : Nat, s.heap.size ≤ q → A q := fun q h => by rw [← hAe]; exact Or.inr h
  have hS : va_S A s.heap s.heap [] := va_S.rf
  have hP : va_P (dC, dI) vwCm [(h0, .inr (0, [.ref a1, .ref a2, .int (nI w), .int (nI h), .int (nI kw), .int (nI kh)])), (a1, .inl (cA, 4096, .inl f)), (a2, .inl (cB, 4096, .inl g))] s.heap := hP
  have hl := lv_entry ([.ref h0]) (n := 4) (Nat.le_of_ble_eq_true rfl)
  rw [lg_entry_eq]
  generalize (lg_sl ([.ref h0]) ++ List.replicate (4 - (lg_sl ([.ref h0])).length) Slot.unset).toArray = ls at hl ⊢
  have hl : lv_has ls 4 [(0, .ref h0)] := hl
  refine lv_aload_n hx hb dX0_transpose_0 rfl (lv_at hl 0 rfl) ?_
  refine lv_aload_n hx hb dX0_transpose_1 rfl (lv_at hl 0 rfl) ?_
  refine va_get (D := (dC, dI)) (ci := 0) (v := .int (nI w)) (C := RX0) (T := TX0) (N := 6) hx hb hts (by decide +kernel) hown hK hP 0 rfl rfl 2 (by decide) (hts (.fieldLink RX0 13 "CoefTurns" "width" "I") (by decide +kernel)) (fun _ h9 => h9) rfl dX0_transpose_2 ?_
  refine lv_aload_n hx hb dX0_transpose_5 rfl (lv_at hl 0 rfl) ?_
  refine va_get (D := (dC, dI)) (ci := 0) (v := .int (nI h)) (C := RX0) (T := TX0) (N := 6) hx hb hts (by decide +kernel) hown hK hP 0 rfl rfl 3 (by decide) (hts (.fieldLink RX0 17 "CoefTurns" "height" "I") (by decide +kernel)) (fun _ h9 => h9) rfl dX0_transpose_6 ?_
  refine va_mmax hx hb (hml.trans hl.1.symm) hown (hts (.methodLink RX0 61 Lib.Math.max.name) (by decide +kernel)) (hts (.static Lib.Math.max.name) (by decide +kernel)) (hts (.initialized "java/lang/Math") (by decide +kernel)) (hts (.code Lib.Math.max.name Lib.Math.max.code 2 (some .int)) (by first | exact List.mem_of_getElem? (i := 6) rfl | decide +kernel)) (Nat.le_of_ble_eq_true rfl) (Nat.le_of_ble_eq_true rfl) (Nat.le_of_ble_eq_true rfl) (Nat.le_of_ble_eq_true rfl) dX0_transpose_9 ?_
  obtain ⟨N, eN, hN1, hN2, hN3⟩ := cf_maxN hw hh
  refine cf_top eN ?_
  have hPc := hP.sub (ws' := [(h0, .inr (0, [.ref a1, .ref a2, .int (nI w), .int (nI h), .int (nI kw), .int (nI kh)])), (a1, .inl (cA, 4096, .inl f)), (a2, .inl (cB, 4096, .inl g))]) [0, 1, 2] rfl
  have hKc := hK.sub (tys' := [(cA, .int), (cB, .int)]) [0, 1] rfl
  have hDc := hD.sub (ws' := [(h0, .inr (0, [.ref a1, .ref a2, .int (nI w), .int (nI h), .int (nI kw), .int (nI kh)])), (a1, .inl (cA, 4096, .inl f)), (a2, .inl (cB, 4096, .inl g))]) [0, 1, 2] (by decide) rfl
  have hFc := va_free (wc := [(h0, .inr (0, [.ref a1, .ref a2, .int (nI w), .int (nI h), .int (nI kw), .int (nI kh)])), (a1, .inl (cA, 4096, .inl f)), (a2, .inl (cB, 4096, .inl g))]) hD hS hA [0, 1, 2] rfl
  refine va_callv (va_runV (As := [.int (nI N)]) (rest := []) ⟨hx, hb, hml, hown, hts⟩ (kX0_exchangeAcrossDiagonal l dC dI s.heap.size h0 a1 a2 cA cB f g w h kw kh N (by omega) (by omega)) (cwV 1 hts gX0_transpose_X0_exchangeAcrossDiagonal rfl rfl rfl (by decide +kernel) ⟨Nat.le_of_ble_eq_true rfl, Nat.le_of_ble_eq_true rfl⟩) ⟨fun a U g mk q => by obtain ⟨q0, q1, qP, qK, qD⟩ := q; exact ⟨q0, q1, qP, va_K.moved (u := U) (U := U.calling g mk a) (Vm.Alike.refl U.vm) qK, qD⟩, va_recv hKc hPc (ci := 0) (q0 := 0) rfl rfl, fun U hU hW => ⟨rfl, by rw [hU], by rw [hU]; exact hPc, va_K.moved hW.alike hKc, hDc.weaken (fun _ _ _ _ => trivial)⟩⟩ rfl rfl hl.1 rfl (lv_room (Nat.le_of_ble_eq_true rfl)) dX0_transpose_12 ⟨Nat.le_of_ble_eq_true rfl, Nat.le_of_ble_eq_true rfl⟩) hS (fun q _ h => hFc q h) hFc (fun u12 t H1 locs ht hvm w12 hB hz1 hk1 hS => ?_)
  obtain ⟨hP1, -, hD1⟩ := hB
  rw [ht] at hP1
  try dsimp only at w12
  obtain ⟨hP, hD⟩ := va_join (wr := []) (w1 := [(h0, .inr (0, [.ref a1, .ref a2, .int (nI w), .int (nI h), .int (nI kw), .int (nI kh)])), (a1, .inl (cA, 4096, .inl u12)), (a2, .inl (cB, 4096, .inl g))]) hP hD [0, 1, 2] [] rfl rfl (by decide) (by decide) hk1 hFc hP1 hD1
  generalize H1 = H at hP hS ⊢
  have hP : va_P (dC, dI) vwCm [(h0, .inr (0, [.ref a1, .ref a2, .int (nI w), .int (nI h), .int (nI kw), .int (nI kh)])), (a1, .inl (cA, 4096, .inl u12)), (a2, .inl (cB, 4096, .inl g))] H := hP
  have hD : va_D A [(h0, .inr (0, [.ref a1, .ref a2, .int (nI w), .int (nI h), .int (nI kw), .int (nI kh)])), (a1, .inl (cA, 4096, .inl u12)), (a2, .inl (cB, 4096, .inl g))] := hD
  refine lv_aload_n hx hb dX0_transpose_15 rfl (lv_at hl 0 rfl) ?_
  refine va_get (D := (dC, dI)) (ci := 0) (v := .int (nI w)) (C := RX0) (T := TX0) (N := 6) hx hb hts (by decide +kernel) hown hK hP 0 rfl rfl 2 (by decide) (hts (.fieldLink RX0 13 "CoefTurns" "width" "I") (by decide +kernel)) (fun _ h9 => h9) rfl dX0_transpose_16 ?_
  refine lv_istore_n (lv' := [(1, .int (nI w)), (0, .ref h0)]) hx hb dX0_transpose_19 rfl hl (by decide) rfl (fun ls hl => ?_)
  refine lv_aload_n hx hb dX0_transpose_20 rfl (lv_at hl 1 rfl) ?_
  refine lv_aload_n hx hb dX0_transpose_21 rfl (lv_at hl 1 rfl) ?_
  refine va_get (D := (dC, dI)) (ci := 0) (v := .int (nI h)) (C := RX0) (T := TX0) (N := 6) hx hb hts (by decide +kernel) hown hK hP 0 rfl rfl 3 (by decide) (hts (.fieldLink RX0 17 "CoefTurns" "height" "I") (by decide +kernel)) (fun _ h9 => h9) rfl dX0_transpose_22 ?_
  refine va_put (D := (dC, dI)) (ci := 0) (v := .int (nI h)) (ty := .int) (C := RX0) (T := TX0) (N := 6) hx hb hts (by decide +kernel) tyX0 tyX0_ok nmX0 hown hK hP hD hS 0 rfl rfl 2 (by decide) (hts (.fieldLink RX0 13 "CoefTurns" "width" "I") (by decide +kernel)) (fun _ h9 => h9) rfl (by decide +kernel) rfl rfl (Nat.le_of_ble_eq_true rfl) dX0_transpose_25 (fun H locs hP hD hS => ?_)
  have hP : va_P (dC, dI) vwCm [(h0, .inr (0, [.ref a1, .ref a2, .int (nI h), .int (nI h), .int (nI kw), .int (nI kh)])), (a1, .inl (cA, 4096, .inl u12)), (a2, .inl (cB, 4096, .inl g))] H := hP
  have hD : va_D A [(h0, .inr (0, [.ref a1, .ref a2, .int (nI h), .int (nI h), .int (nI kw), .int (nI kh)])), (a1, .inl (cA, 4096, .inl u12)), (a2, .inl (cB, 4096, .inl g))] := hD
  refine lv_aload_n hx hb dX0_transpose_28 rfl (lv_at hl 1 rfl) ?_
  refine lv_iload_n hx hb dX0_transpose_29 rfl (lv_at hl 0 rfl) ?_
  refine va_put (D := (dC, dI)) (ci := 0) (v := .int (nI w)) (ty := .int) (C := RX0) (T := TX0) (N := 6) hx hb hts (by decide +kernel) tyX0 tyX0_ok nmX0 hown hK hP hD hS 0 rfl rfl 3 (by decide) (hts (.fieldLink RX0 17 "CoefTurns" "height" "I") (by decide +kernel)) (fun _ h9 => h9) rfl (by decide +kernel) rfl rfl (Nat.le_of_ble_eq_true rfl) dX0_transpose_30 (fun H locs hP hD hS => ?_)
  have hP : va_P (dC, dI) vwCm [(h0, .inr (0, [.ref a1, .ref a2, .int (nI h), .int (nI w), .int (nI kw), .int (nI kh)])), (a1, .inl (cA, 4096, .inl u12)), (a2, .inl (cB, 4096, .inl g))] H := hP
  have hD : va_D A [(h0, .inr (0, [.ref a1, .ref a2, .int (nI h), .int (nI w), .int (nI kw), .int (nI kh)])), (a1, .inl (cA, 4096, .inl u12)), (a2, .inl (cB, 4096, .inl g))] := hD
  refine lv_iconst (v := nI 0) hx hb dX0_transpose_33 (by decide +kernel) ?_
  refine lv_istore_n (lv' := [(2, .int (nI 0)), (1, .int (nI w)), (0, .ref h0)]) hx hb dX0_transpose_34 rfl hl (by decide) rfl (fun ls hl => ?_)
  have lp35 : ∀ (n35 : Nat) (y0 : Nat) (fc : Nat → Int32), y0 ≤ w → w < y0 + n35 → cf_ti h y0 0 u12 fc → ∀ (H : Heap) (locs : List Loc), va_P (dC, dI) vwCm [(h0, .inr (0, [.ref a1, .ref a2, .int (nI h), .int (nI w), .int (nI kw), .int (nI kh)])), (a1, .inl (cA, 4096, .inl fc)), (a2, .inl (cB, 4096, .inl g))] H → va_D A [(h0, .inr (0, [.ref a1, .ref a2, .int (nI h), .int (nI w), .int (nI kw), .int (nI kh)])), (a1, .inl (cA, 4096, .inl fc)), (a2, .inl (cB, 4096, .inl g))] → va_S A s.heap H locs → ∀ (ls : Array Slot), lv_has ls 4 [(0, .ref h0), (1, .int (nI w)), (2, .int (nI y0))] → W p l e (headSpec wsX0_transpose ({ frames := 3, cells := 0, slots := 0, locals := 69 })).room s m ([.ref h0] : List Value).toArray below meth c H locs 0 0 (MQ below (va_Qv (fun u : Nat → Int32 => cf_Ag h w (cf_V u) (cf_tr (cf_V f))) (fun (u : Nat → Int32) (t : State) => va_P (dC, dI) vwCm [(h0, .inr (0, [.ref a1, .ref a2, .int (nI h), .int (nI w), .int (nI kw), .int (nI kh)])), (a1, .inl (cA, 4096, .inl u)), (a2, .inl (cB, 4096, .inl g))] t.heap ∧ va_K (dC, dI) vwCm [(cA, .int), (cB, .int)] t ∧ va_D A [(h0, .inr (0, [.ref a1, .ref a2, .int (nI h), .int (nI w), .int (nI kw), .int (nI kh)])), (a1, .inl (cA, 4096, .inl u)), (a2, .inl (cB, 4096, .inl g))]) A) ([.ref h0] : List Value).toArray s 0 0 A) (F0 m 35 ls []) := by
    intro n35
    induction n35 with
    | zero => intro y0 fc h1 h2; exact absurd h2 (by omega)
    | succ n35 ih35 =>
      intro y0 fc hk35 hn35 hI H locs hP hD hS ls hl
      refine lv_iload_n hx hb dX0_transpose_35 rfl (lv_at hl 2 rfl) ?_
      refine lv_aload_n hx hb dX0_transpose_36 rfl (lv_at hl 0 rfl) ?_
      refine va_get (D := (dC, dI)) (ci := 0) (v := .int (nI w)) (C := RX0) (T := TX0) (N := 6) hx hb hts (by decide +kernel) hown hK hP 0 rfl rfl 3 (by decide) (hts (.fieldLink RX0 17 "CoefTurns" "height" "I") (by decide +kernel)) (fun _ h9 => h9) rfl dX0_transpose_37 ?_
      refine lv_icmp_ge (tgt := 74) hx hb dX0_transpose_40 (by decide) (fun c40 => ?_) (fun c40 => ?_)
      · skip
        have c40 := (nI_leI (a := w) (b := y0) (by omega) (by omega)).mp c40
        have hP9 := hP.sub (ws' := [(h0, .inr (0, [.ref a1, .ref a2, .int (nI h), .int (nI w), .int (nI kw), .int (nI kh)])), (a1, .inl (cA, 4096, .inl fc)), (a2, .inl (cB, 4096, .inl g))]) [0, 1, 2] rfl
        have hD9 := hD.sub (ws' := [(h0, .inr (0, [.ref a1, .ref a2, .int (nI h), .int (nI w), .int (nI kw), .int (nI kh)])), (a1, .inl (cA, 4096, .inl fc)), (a2, .inl (cB, 4096, .inl g))]) [0, 1, 2] (by decide) rfl
        exact W.vret hx hb hr (fun t ht hW => ⟨⟨fc, rfl, (by have e : y0 = w := (by omega); rw [e] at hI; exact cf_ti_e w12 hI (by omega) (by omega)), by rw [ht]; exact hP9, va_K.moved hW.alike hK, hD9⟩, hS.F ht⟩) hS.2.2 dX0_transpose_74
      · skip
        have c40 := mt (nI_leI (a := w) (b := y0) (by omega) (by omega)).mpr c40
        refine lv_iconst (v := nI 0) hx hb dX0_transpose_43 (by decide +kernel) ?_
        refine lv_istore_n (lv' := [(3, .int (nI 0)), (0, .ref h0), (1, .int (nI w)), (2, .int (nI y0))]) hx hb dX0_transpose_44 rfl hl (by decide) rfl (fun ls hl => ?_)
        have lp45 : ∀ (n45 : Nat) (x0 : Nat) (fd : Nat → Int32), x0 ≤ h → h < x0 + n45 → cf_ti h y0 x0 u12 fd → ∀ (H : Heap) (locs : List Loc), va_P (dC, dI) vwCm [(h0, .inr (0, [.ref a1, .ref a2, .int (nI h), .int (nI w), .int (nI kw), .int (nI kh)])), (a1, .inl (cA, 4096, .inl fd)), (a2, .inl (cB, 4096, .inl g))] H → va_D A [(h0, .inr (0, [.ref a1, .ref a2, .int (nI h), .int (nI w), .int (nI kw), .int (nI kh)])), (a1, .inl (cA, 4096, .inl fd)), (a2, .inl (cB, 4096, .inl g))] → va_S A s.heap H locs → ∀ (ls : Array Slot), lv_has ls 4 [(0, .ref h0), (1, .int (nI w)), (2, .int (nI y0)), (3, .int (nI x0))] → W p l e (headSpec wsX0_transpose ({ frames := 3, cells := 0, slots := 0, locals := 69 })).room s m ([.ref h0] : List Value).toArray below meth c H locs 0 0 (MQ below (va_Qv (fun u : Nat → Int32 => cf_Ag h w (cf_V u) (cf_tr (cf_V f))) (fun (u : Nat → Int32) (t : State) => va_P (dC, dI) vwCm [(h0, .inr (0, [.ref a1, .ref a2, .int (nI h), .int (nI w), .int (nI kw), .int (nI kh)])), (a1, .inl (cA, 4096, .inl u)), (a2, .inl (cB, 4096, .inl g))] t.heap ∧ va_K (dC, dI) vwCm [(cA, .int), (cB, .int)] t ∧ va_D A [(h0, .inr (0, [.ref a1, .ref a2, .int (nI h), .int (nI w), .int (nI kw), .int (nI kh)])), (a1, .inl (cA, 4096, .inl u)), (a2, .inl (cB, 4096, .inl g))]) A) ([.ref h0] : List Value).toArray s 0 0 A) (F0 m 45 ls []) := by
          intro n45
          induction n45 with
          | zero => intro x0 fd h1 h2; exact absurd h2 (by omega)
          | succ n45 ih45 =>
            intro x0 fd hk45 hn45 hI1 H locs hP hD hS ls hl
            refine lv_iload_n hx hb dX0_transpose_45 rfl (lv_at hl 3 rfl) ?_
            refine lv_aload_n hx hb dX0_transpose_46 rfl (lv_at hl 0 rfl) ?_
            refine va_get (D := (dC, dI)) (ci := 0) (v := .int (nI h)) (C := RX0) (T := TX0) (N := 6) hx hb hts (by decide +kernel) hown hK hP 0 rfl rfl 2 (by decide) (hts (.fieldLink RX0 13 "CoefTurns" "width" "I") (by decide +kernel)) (fun _ h9 => h9) rfl dX0_transpose_47 ?_
            refine lv_icmp_ge (tgt := 68) hx hb dX0_transpose_50 (by decide) (fun c50 => ?_) (fun c50 => ?_)
            · skip
              have c50 := (nI_leI (a := h) (b := x0) (by omega) (by omega)).mp c50
              refine lv_iinc (v := nI (y0 + 1)) (lv' := [(2, .int (nI (y0 + 1))), (0, .ref h0), (1, .int (nI w)), (3, .int (nI x0))]) hx hb dX0_transpose_68 hl (k := 2) rfl (by rw [← nI_add]; rfl) (by decide) rfl (fun ls hl => ?_)
              refine lv_goto (tgt := 35) hx hb dX0_transpose_71 (by decide) ?_
              exact ih35 (y0 + 1) fd (by omega) (by omega) (cf_ti_r hI1 (by omega)) H locs hP hD hS ls (lv_sub hl [1, 2, 0] rfl)
            · skip
              have c50 := mt (nI_leI (a := h) (b := x0) (by omega) (by omega)).mpr c50
              refine lv_aload_n hx hb dX0_transpose_53 rfl (lv_at hl 0 rfl) ?_
              refine lv_iload_n hx hb dX0_transpose_54 rfl (lv_at hl 3 rfl) ?_
              refine lv_iload_n hx hb dX0_transpose_55 rfl (lv_at hl 2 rfl) ?_
              refine vp_callSi (W.runS (As := [.int (nI x0), .int (nI y0)]) (rest := [.ref h0]) ⟨hx, hb, hml, hown, hts⟩ (kX0_blockStart l x0 y0) (va_cwS 2 hts gX0_transpose_X0_blockStart rfl rfl rfl (by decide +kernel) ⟨Nat.le_of_ble_eq_true rfl, Nat.le_of_ble_eq_true rfl⟩) ⟨fun a U g mk q => q, fun U hU hW => ⟨rfl, trivial⟩⟩ rfl rfl hl.1 rfl (lv_room (Nat.le_of_ble_eq_true rfl)) dX0_transpose_56 ⟨Nat.le_of_ble_eq_true rfl, Nat.le_of_ble_eq_true rfl⟩) (fun r56 w56 => ?_)
              subst w56
              have hPc := hP.sub (ws' := [(h0, .inr (0, [.ref a1, .ref a2, .int (nI h), .int (nI w), .int (nI kw), .int (nI kh)])), (a1, .inl (cA, 4096, .inl fd)), (a2, .inl (cB, 4096, .inl g))]) [0, 1, 2] rfl
              have hKc := hK.sub (tys' := [(cA, .int), (cB, .int)]) [0, 1] rfl
              have hDc := hD.sub (ws' := [(h0, .inr (0, [.ref a1, .ref a2, .int (nI h), .int (nI w), .int (nI kw), .int (nI kh)])), (a1, .inl (cA, 4096, .inl fd)), (a2, .inl (cB, 4096, .inl g))]) [0, 1, 2] (by decide) rfl
              have hFc := va_free (wc := [(h0, .inr (0, [.ref a1, .ref a2, .int (nI h), .int (nI w), .int (nI kw), .int (nI kh)])), (a1, .inl (cA, 4096, .inl fd)), (a2, .inl (cB, 4096, .inl g))]) hD hS hA [0, 1, 2] rfl
              refine va_callv (va_runV (As := [.int (nI (64 * (8 * y0 + x0)))]) (rest := []) ⟨hx, hb, hml, hown, hts⟩ (kX0_transposeBlock l dC dI H.size h0 a1 a2 cA cB fd g h w kw kh (8 * y0 + x0) (by omega)) (cwV 1 hts gX0_transpose_X0_transposeBlock rfl rfl rfl (by decide +kernel) ⟨Nat.le_of_ble_eq_true rfl, Nat.le_of_ble_eq_true rfl⟩) ⟨fun a U g mk q => by obtain ⟨q0, q1, qP, qK, qD⟩ := q; exact ⟨q0, q1, qP, va_K.moved (u := U) (U := U.calling g mk a) (Vm.Alike.refl U.vm) qK, qD⟩, va_recv hKc hPc (ci := 0) (q0 := 0) rfl rfl, fun U hU hW => ⟨rfl, by rw [hU], by rw [hU]; exact hPc, va_K.moved hW.alike hKc, hDc.weaken (fun _ _ _ _ => trivial)⟩⟩ rfl rfl hl.1 rfl (lv_room (Nat.le_of_ble_eq_true rfl)) dX0_transpose_59 ⟨Nat.le_of_ble_eq_true rfl, Nat.le_of_ble_eq_true rfl⟩) hS (fun q _ h => hFc q h) hFc (fun u59 t H1 locs ht hvm w59 hB hz1 hk1 hS => ?_)
              obtain ⟨hP1, -, hD1⟩ := hB
              rw [ht] at hP1
              try dsimp only at w59
              obtain ⟨hP, hD⟩ := va_join (wr := []) (w1 := [(h0, .inr (0, [.ref a1, .ref a2, .int (nI h), .int (nI w), .int (nI kw), .int (nI kh)])), (a1, .inl (cA, 4096, .inl u59)), (a2, .inl (cB, 4096, .inl g))]) hP hD [0, 1, 2] [] rfl rfl (by decide) (by decide) hk1 hFc hP1 hD1
              generalize H1 = H at hP hS ⊢
              have hP : va_P (dC, dI) vwCm [(h0, .inr (0, [.ref a1, .ref a2, .int (nI h), .int (nI w), .int (nI kw), .int (nI kh)])), (a1, .inl (cA, 4096, .inl u59)), (a2, .inl (cB, 4096, .inl g))] H := hP
              have hD : va_D A [(h0, .inr (0, [.ref a1, .ref a2, .int (nI h), .int (nI w), .int (nI kw), .int (nI kh)])), (a1, .inl (cA, 4096, .inl u59)), (a2, .inl (cB, 4096, .inl g))] := hD
              refine lv_iinc (v := nI (x0 + 1)) (lv' := [(3, .int (nI (x0 + 1))), (0, .ref h0), (1, .int (nI w)), (2, .int (nI y0))]) hx hb dX0_transpose_62 hl (k := 3) rfl (by rw [← nI_add]; rfl) (by decide) rfl (fun ls hl => ?_)
              refine lv_goto (tgt := 45) hx hb dX0_transpose_65 (by decide) ?_
              exact ih45 (x0 + 1) u59 (by omega) (by omega) (cf_ti_s hI1 hh (by omega) w59) H locs hP hD hS ls (lv_sub hl [1, 2, 3, 0] rfl)
        exact lp45 (h + 1) 0 fc (by omega) (by omega) hI H locs hP hD hS ls (lv_sub hl [1, 2, 3, 0] rfl)
  exact lp35 (w + 1) 0 u12 (by omega) (by omega) cf_ti_0 H locs hP hD hS ls (lv_sub hl [2, 1, 0] rfl)
set_option maxHeartbeats 4000000 in
set_option maxRecDepth 100000 in
/-- X0_mirror -/
theorem kX0_mirror (l : Launch) (dC : Nat → ClassId) (dI : Nat → Nat → Nat) (sz : Nat) (h0 a1 a2 : Nat) (cA cB : ClassId) (f g : Nat → Int32) (w h kw kh : Nat) (hw : w ≤ 8) (hh : h ≤ 8) (hw1 : 1 ≤ w) (hh1 : 1 ≤ h) : Met l yX0_mirror wsX0_mirror ({ frames := 2, cells := 0, slots := 0, locals := 46 }) (va_Pc [.ref h0] (fun U => U.heap.size = sz ∧ va_P (dC, dI) vwCm [(h0, .inr (0, [.ref a1, .ref a2, .int (nI w), .int (nI h), .int (nI kw), .int (nI kh)])), (a1, .inl (cA, 4096, .inl f)), (a2, .inl (cB, 4096, .inl g))] U.heap ∧ va_K (dC, dI) vwCm [(cA, .int), (cB, .int)] U ∧ va_D (fun _ => True) [(h0, .inr (0, [.ref a1, .ref a2, .int (nI w), .int (nI h), .int (nI kw), .int (nI kh)])), (a1, .inl (cA, 4096, .inl f)), (a2, .inl (cB, 4096, .inl g))])) (va_Qv (fun u : Nat → Int32 => cf_Ag w h (cf_V u) (cf_mi w (cf_V f))) (fun (u : Nat → Int32) (t : State) => va_P (dC, dI) vwCm [(h0, .inr (0, [.ref a1, .ref a2, .int (nI w), .int (nI h), .int (nI kw), .int (nI kh)])), (a1, .inl (cA, 4096, .inl u)), (a2, .inl (cB, 4096, .inl g))] t.heap ∧ va_K (dC, dI) vwCm [(cA, .int), (cB, .int)] t ∧ va_D (va_A [(h0, .inr (0, [.ref a1, .ref a2, .int (nI w), .int (nI h), .int (nI kw), .int (nI kh)])), (a1, .inl (cA, 4096, .inl f)), (a2, .inl (cB, 4096, .inl g))] sz) [(h0, .inr (0, [.ref a1, .ref a2, .int (nI w), .int (nI h), .int (nI kw), .int (nI kh)])), (a1, .inl (cA, 4096, .inl u)), (a2, .inl (cB, 4096, .inl g))]) (va_A [(h0, .inr (0, [.ref a1, .ref a2, .int (nI w), .int (nI h), .int (nI kw), .int (nI kh)])), (a1, .inl (cA, 4096, .inl f)), (a2, .inl (cB, 4096, .inl g))] sz)) 0 0 (va_A [(h0, .inr (0, [.ref a1, .ref a2, .int (nI w), .int (nI h), .int (nI kw), .int (nI kh)])), (a1, .inl (cA, 4096, .inl f)), (a2, .inl (cB, 4096, .inl g))] sz) := by
  refine Met.ofW (cc := cX0_mirror) (maxL := 3) (ret := none) (by decide) rfl ?_
  intro p e s m args below meth c s₁ B hml hv
  obtain ⟨rfl, hsz, hP, hK, hD0⟩ := hv
  have hx := B.exec
  have hb := B.bytes
  have hr := B.returns
  have hts := atoms_spec (ws := wsX0_mirror) B.pre
  have hown : s.vm.findClass RX0 = some m.cls := findClass_of_methodNamed B.named
  have hlocks := B.notSynchronized
  subst hsz
  have hD := hD0.self (sz := s.heap.size)
  generalize hAe : va_A [(h0, .inr (0, [.ref a1, .ref a2, .int (nI w), .int (nI h), .int (nI kw), .int (nI kh)])), (a1, .inl (cA, 4096, .inl f)), (a2, .inl (cB, 4096, .inl g))] s.heap.size = A at hD ⊢
  have hA : ∀ q : Nat, s.heap.size ≤ q → A q := fun q h => by rw [← hAe]; exact Or.inr h
  have hS : va_S A s.heap s.heap [] := va_S.rf
  have hP : va_P (dC, dI) vwCm [(h0, .inr (0, [.ref a1, .ref a2, .int (nI w), .int (nI h), .int (nI kw), .int (nI kh)])), (a1, .inl (cA, 4096, .inl f)), (a2, .inl (cB, 4096, .inl g))] s.heap := hP
  have hl := lv_entry ([.ref h0]) (n := 3) (Nat.le_of_ble_eq_true rfl)
  rw [lg_entry_eq]
  generalize (lg_sl ([.ref h0]) ++ List.replicate (3 - (lg_sl ([.ref h0])).length) Slot.unset).toArray = ls at hl ⊢
  have hl : lv_has ls 3 [(0, .ref h0)] := hl
  refine lv_iconst (v := nI 0) hx hb dX0_mirror_0 (by decide +kernel) ?_
  refine lv_istore_n (lv' := [(1, .int (nI 0)), (0, .ref h0)]) hx hb dX0_mirror_1 rfl hl (by decide) rfl (fun ls hl => ?_)
  have lp2 : ∀ (n2 : Nat) (y0 : Nat) (fc : Nat → Int32), y0 ≤ h → h < y0 + n2 → cf_mx w y0 0 f fc → ∀ (H : Heap) (locs : List Loc), va_P (dC, dI) vwCm [(h0, .inr (0, [.ref a1, .ref a2, .int (nI w), .int (nI h), .int (nI kw), .int (nI kh)])), (a1, .inl (cA, 4096, .inl fc)), (a2, .inl (cB, 4096, .inl g))] H → va_D A [(h0, .inr (0, [.ref a1, .ref a2, .int (nI w), .int (nI h), .int (nI kw), .int (nI kh)])), (a1, .inl (cA, 4096, .inl fc)), (a2, .inl (cB, 4096, .inl g))] → va_S A s.heap H locs → ∀ (ls : Array Slot), lv_has ls 3 [(0, .ref h0), (1, .int (nI y0))] → W p l e (headSpec wsX0_mirror ({ frames := 2, cells := 0, slots := 0, locals := 46 })).room s m ([.ref h0] : List Value).toArray below meth c H locs 0 0 (MQ below (va_Qv (fun u : Nat → Int32 => cf_Ag w h (cf_V u) (cf_mi w (cf_V f))) (fun (u : Nat → Int32) (t : State) => va_P (dC, dI) vwCm [(h0, .inr (0, [.ref a1, .ref a2, .int (nI w), .int (nI h), .int (nI kw), .int (nI kh)])), (a1, .inl (cA, 4096, .inl u)), (a2, .inl (cB, 4096, .inl g))] t.heap ∧ va_K (dC, dI) vwCm [(cA, .int), (cB, .int)] t ∧ va_D A [(h0, .inr (0, [.ref a1, .ref a2, .int (nI w), .int (nI h), .int (nI kw), .int (nI kh)])), (a1, .inl (cA, 4096, .inl u)), (a2, .inl (cB, 4096, .inl g))]) A) ([.ref h0] : List Value).toArray s 0 0 A) (F0 m 2 ls []) := by
    intro n2
    induction n2 with
    | zero => intro y0 fc h1 h2; exact absurd h2 (by omega)
    | succ n2 ih2 =>
      intro y0 fc hk2 hn2 hI H locs hP hD hS ls hl
      refine lv_iload_n hx hb dX0_mirror_2 rfl (lv_at hl 1 rfl) ?_
      refine lv_aload_n hx hb dX0_mirror_3 rfl (lv_at hl 0 rfl) ?_
      refine va_get (D := (dC, dI)) (ci := 0) (v := .int (nI h)) (C := RX0) (T := TX0) (N := 6) hx hb hts (by decide +kernel) hown hK hP 0 rfl rfl 3 (by decide) (hts (.fieldLink RX0 17 "CoefTurns" "height" "I") (by decide +kernel)) (fun _ h9 => h9) rfl dX0_mirror_4 ?_
      refine lv_icmp_ge (tgt := 55) hx hb dX0_mirror_7 (by decide) (fun c7 => ?_) (fun c7 => ?_)
      · skip
        have c7 := (nI_leI (a := h) (b := y0) (by omega) (by omega)).mp c7
        refine lv_aload_n hx hb dX0_mirror_55 rfl (lv_at hl 0 rfl) ?_
        refine lv_iconst (v := nI 1) hx hb dX0_mirror_56 (by decide +kernel) ?_
        have hPc := hP.sub (ws' := [(h0, .inr (0, [.ref a1, .ref a2, .int (nI w), .int (nI h), .int (nI kw), .int (nI kh)])), (a1, .inl (cA, 4096, .inl fc)), (a2, .inl (cB, 4096, .inl g))]) [0, 1, 2] rfl
        have hKc := hK.sub (tys' := [(cA, .int), (cB, .int)]) [0, 1] rfl
        have hDc := hD.sub (ws' := [(h0, .inr (0, [.ref a1, .ref a2, .int (nI w), .int (nI h), .int (nI kw), .int (nI kh)])), (a1, .inl (cA, 4096, .inl fc)), (a2, .inl (cB, 4096, .inl g))]) [0, 1, 2] (by decide) rfl
        have hFc := va_free (wc := [(h0, .inr (0, [.ref a1, .ref a2, .int (nI w), .int (nI h), .int (nI kw), .int (nI kh)])), (a1, .inl (cA, 4096, .inl fc)), (a2, .inl (cB, 4096, .inl g))]) hD hS hA [0, 1, 2] rfl
        refine va_callv (va_runV (As := [.int (nI 1)]) (rest := []) ⟨hx, hb, hml, hown, hts⟩ (kX0_negatePlaces l dC dI H.size h0 a1 a2 cA cB fc g w h kw kh 1 (by omega) (by omega) (by decide)) (cwV 1 hts gX0_mirror_X0_negatePlaces rfl rfl rfl (by decide +kernel) ⟨Nat.le_of_ble_eq_true rfl, Nat.le_of_ble_eq_true rfl⟩) ⟨fun a U g mk q => by obtain ⟨q0, q1, qP, qK, qD⟩ := q; exact ⟨q0, q1, qP, va_K.moved (u := U) (U := U.calling g mk a) (Vm.Alike.refl U.vm) qK, qD⟩, va_recv hKc hPc (ci := 0) (q0 := 0) rfl rfl, fun U hU hW => ⟨rfl, by rw [hU], by rw [hU]; exact hPc, va_K.moved hW.alike hKc, hDc.weaken (fun _ _ _ _ => trivial)⟩⟩ rfl rfl hl.1 rfl (lv_room (Nat.le_of_ble_eq_true rfl)) dX0_mirror_57 ⟨Nat.le_of_ble_eq_true rfl, Nat.le_of_ble_eq_true rfl⟩) hS (fun q _ h => hFc q h) hFc (fun u57 t H1 locs ht hvm w57 hB hz1 hk1 hS => ?_)
        obtain ⟨hP1, -, hD1⟩ := hB
        rw [ht] at hP1
        try dsimp only at w57
        obtain ⟨hP, hD⟩ := va_join (wr := []) (w1 := [(h0, .inr (0, [.ref a1, .ref a2, .int (nI w), .int (nI h), .int (nI kw), .int (nI kh)])), (a1, .inl (cA, 4096, .inl u57)), (a2, .inl (cB, 4096, .inl g))]) hP hD [0, 1, 2] [] rfl rfl (by decide) (by decide) hk1 hFc hP1 hD1
        generalize H1 = H at hP hS ⊢
        have hP : va_P (dC, dI) vwCm [(h0, .inr (0, [.ref a1, .ref a2, .int (nI w), .int (nI h), .int (nI kw), .int (nI kh)])), (a1, .inl (cA, 4096, .inl u57)), (a2, .inl (cB, 4096, .inl g))] H := hP
        have hD : va_D A [(h0, .inr (0, [.ref a1, .ref a2, .int (nI w), .int (nI h), .int (nI kw), .int (nI kh)])), (a1, .inl (cA, 4096, .inl u57)), (a2, .inl (cB, 4096, .inl g))] := hD
        have hP9 := hP.sub (ws' := [(h0, .inr (0, [.ref a1, .ref a2, .int (nI w), .int (nI h), .int (nI kw), .int (nI kh)])), (a1, .inl (cA, 4096, .inl u57)), (a2, .inl (cB, 4096, .inl g))]) [0, 1, 2] rfl
        have hD9 := hD.sub (ws' := [(h0, .inr (0, [.ref a1, .ref a2, .int (nI w), .int (nI h), .int (nI kw), .int (nI kh)])), (a1, .inl (cA, 4096, .inl u57)), (a2, .inl (cB, 4096, .inl g))]) [0, 1, 2] (by decide) rfl
        exact W.vret hx hb hr (fun t ht hW => ⟨⟨u57, rfl, (by have e : y0 = h := (by omega); rw [e] at hI; exact cf_mi_fin hI w57), by rw [ht]; exact hP9, va_K.moved hW.alike hK, hD9⟩, hS.F ht⟩) hS.2.2 dX0_mirror_60
      · skip
        have c7 := mt (nI_leI (a := h) (b := y0) (by omega) (by omega)).mpr c7
        refine lv_iconst (v := nI 0) hx hb dX0_mirror_10 (by decide +kernel) ?_
        refine lv_istore_n (lv' := [(2, .int (nI 0)), (0, .ref h0), (1, .int (nI y0))]) hx hb dX0_mirror_11 rfl hl (by decide) rfl (fun ls hl => ?_)
        have lp12 : ∀ (n12 : Nat) (x0 : Nat) (fd : Nat → Int32), x0 ≤ w / 2 → w / 2 < x0 + n12 → cf_mx w y0 x0 f fd → ∀ (H : Heap) (locs : List Loc), va_P (dC, dI) vwCm [(h0, .inr (0, [.ref a1, .ref a2, .int (nI w), .int (nI h), .int (nI kw), .int (nI kh)])), (a1, .inl (cA, 4096, .inl fd)), (a2, .inl (cB, 4096, .inl g))] H → va_D A [(h0, .inr (0, [.ref a1, .ref a2, .int (nI w), .int (nI h), .int (nI kw), .int (nI kh)])), (a1, .inl (cA, 4096, .inl fd)), (a2, .inl (cB, 4096, .inl g))] → va_S A s.heap H locs → ∀ (ls : Array Slot), lv_has ls 3 [(0, .ref h0), (1, .int (nI y0)), (2, .int (nI x0))] → W p l e (headSpec wsX0_mirror ({ frames := 2, cells := 0, slots := 0, locals := 46 })).room s m ([.ref h0] : List Value).toArray below meth c H locs 0 0 (MQ below (va_Qv (fun u : Nat → Int32 => cf_Ag w h (cf_V u) (cf_mi w (cf_V f))) (fun (u : Nat → Int32) (t : State) => va_P (dC, dI) vwCm [(h0, .inr (0, [.ref a1, .ref a2, .int (nI w), .int (nI h), .int (nI kw), .int (nI kh)])), (a1, .inl (cA, 4096, .inl u)), (a2, .inl (cB, 4096, .inl g))] t.heap ∧ va_K (dC, dI) vwCm [(cA, .int), (cB, .int)] t ∧ va_D A [(h0, .inr (0, [.ref a1, .ref a2, .int (nI w), .int (nI h), .int (nI kw), .int (nI kh)])), (a1, .inl (cA, 4096, .inl u)), (a2, .inl (cB, 4096, .inl g))]) A) ([.ref h0] : List Value).toArray s 0 0 A) (F0 m 12 ls []) := by
          intro n12
          induction n12 with
          | zero => intro x0 fd h1 h2; exact absurd h2 (by omega)
          | succ n12 ih12 =>
            intro x0 fd hk12 hn12 hI1 H locs hP hD hS ls hl
            refine lv_iload_n hx hb dX0_mirror_12 rfl (lv_at hl 2 rfl) ?_
            refine lv_aload_n hx hb dX0_mirror_13 rfl (lv_at hl 0 rfl) ?_
            refine va_get (D := (dC, dI)) (ci := 0) (v := .int (nI w)) (C := RX0) (T := TX0) (N := 6) hx hb hts (by decide +kernel) hown hK hP 0 rfl rfl 2 (by decide) (hts (.fieldLink RX0 13 "CoefTurns" "width" "I") (by decide +kernel)) (fun _ h9 => h9) rfl dX0_mirror_14 ?_
            refine lv_iconst (v := nI 2) hx hb dX0_mirror_17 (by decide +kernel) ?_
            refine lv_idiv hx hb dX0_mirror_18 (nI_ne0 (by omega) (by omega)) ?_
            refine cf_top (pk_div (by omega) (by omega) (by omega)) ?_
            refine lv_icmp_ge (tgt := 49) hx hb dX0_mirror_19 (by decide) (fun c19 => ?_) (fun c19 => ?_)
            · skip
              have c19 := (nI_leI (a := w / 2) (b := x0) (by omega) (by omega)).mp c19
              refine lv_iinc (v := nI (y0 + 1)) (lv' := [(1, .int (nI (y0 + 1))), (0, .ref h0), (2, .int (nI x0))]) hx hb dX0_mirror_49 hl (k := 1) rfl (by rw [← nI_add]; rfl) (by decide) rfl (fun ls hl => ?_)
              refine lv_goto (tgt := 2) hx hb dX0_mirror_52 (by decide) ?_
              exact ih2 (y0 + 1) fd (by omega) (by omega) (cf_mx_r hI1 (by omega)) H locs hP hD hS ls (lv_sub hl [1, 0] rfl)
            · skip
              have c19 := mt (nI_leI (a := w / 2) (b := x0) (by omega) (by omega)).mpr c19
              refine lv_aload_n hx hb dX0_mirror_22 rfl (lv_at hl 0 rfl) ?_
              refine lv_iload_n hx hb dX0_mirror_23 rfl (lv_at hl 2 rfl) ?_
              refine lv_iload_n hx hb dX0_mirror_24 rfl (lv_at hl 1 rfl) ?_
              refine vp_callSi (W.runS (As := [.int (nI x0), .int (nI y0)]) (rest := [.ref h0]) ⟨hx, hb, hml, hown, hts⟩ (kX0_blockStart l x0 y0) (va_cwS 2 hts gX0_mirror_X0_blockStart rfl rfl rfl (by decide +kernel) ⟨Nat.le_of_ble_eq_true rfl, Nat.le_of_ble_eq_true rfl⟩) ⟨fun a U g mk q => q, fun U hU hW => ⟨rfl, trivial⟩⟩ rfl rfl hl.1 rfl (lv_room (Nat.le_of_ble_eq_true rfl)) dX0_mirror_25 ⟨Nat.le_of_ble_eq_true rfl, Nat.le_of_ble_eq_true rfl⟩) (fun r25 w25 => ?_)
              subst w25
              refine lv_aload_n hx hb dX0_mirror_28 rfl (lv_at hl 0 rfl) ?_
              refine va_get (D := (dC, dI)) (ci := 0) (v := .int (nI w)) (C := RX0) (T := TX0) (N := 6) hx hb hts (by decide +kernel) hown hK hP 0 rfl rfl 2 (by decide) (hts (.fieldLink RX0 13 "CoefTurns" "width" "I") (by decide +kernel)) (fun _ h9 => h9) rfl dX0_mirror_29 ?_
              refine lv_iconst (v := nI 1) hx hb dX0_mirror_32 (by decide +kernel) ?_
              refine lv_isub hx hb dX0_mirror_33 ?_
              refine cf_top (pk_sub (by omega)) ?_
              refine lv_iload_n hx hb dX0_mirror_34 rfl (lv_at hl 2 rfl) ?_
              refine lv_isub hx hb dX0_mirror_35 ?_
              refine cf_top (pk_sub (by omega)) ?_
              refine lv_iload_n hx hb dX0_mirror_36 rfl (lv_at hl 1 rfl) ?_
              refine vp_callSi (W.runS (As := [.int (nI ((w - 1) - x0)), .int (nI y0)]) (rest := [.int (nI (64 * (8 * y0 + x0))), .ref h0]) ⟨hx, hb, hml, hown, hts⟩ (kX0_blockStart l ((w - 1) - x0) y0) (va_cwS 2 hts gX0_mirror_X0_blockStart rfl rfl rfl (by decide +kernel) ⟨Nat.le_of_ble_eq_true rfl, Nat.le_of_ble_eq_true rfl⟩) ⟨fun a U g mk q => q, fun U hU hW => ⟨rfl, trivial⟩⟩ rfl rfl hl.1 rfl (lv_room (Nat.le_of_ble_eq_true rfl)) dX0_mirror_37 ⟨Nat.le_of_ble_eq_true rfl, Nat.le_of_ble_eq_true rfl⟩) (fun r37 w37 => ?_)
              subst w37
              have hPc := hP.sub (ws' := [(h0, .inr (0, [.ref a1, .ref a2, .int (nI w), .int (nI h), .int (nI kw), .int (nI kh)])), (a1, .inl (cA, 4096, .inl fd)), (a2, .inl (cB, 4096, .inl g))]) [0, 1, 2] rfl
              have hKc := hK.sub (tys' := [(cA, .int), (cB, .int)]) [0, 1] rfl
              have hDc := hD.sub (ws' := [(h0, .inr (0, [.ref a1, .ref a2, .int (nI w), .int (nI h), .int (nI kw), .int (nI kh)])), (a1, .inl (cA, 4096, .inl fd)), (a2, .inl (cB, 4096, .inl g))]) [0, 1, 2] (by decide) rfl
              have hFc := va_free (wc := [(h0, .inr (0, [.ref a1, .ref a2, .int (nI w), .int (nI h), .int (nI kw), .int (nI kh)])), (a1, .inl (cA, 4096, .inl fd)), (a2, .inl (cB, 4096, .inl g))]) hD hS hA [0, 1, 2] rfl
              refine va_callv (va_runV (As := [.int (nI (64 * (8 * y0 + x0))), .int (nI (64 * (8 * y0 + ((w - 1) - x0))))]) (rest := []) ⟨hx, hb, hml, hown, hts⟩ (kX0_exchangeBlocks l dC dI H.size h0 a1 a2 cA cB fd g w h kw kh (8 * y0 + x0) (8 * y0 + ((w - 1) - x0)) (by omega) (by omega)) (cwV 2 hts gX0_mirror_X0_exchangeBlocks rfl rfl rfl (by decide +kernel) ⟨Nat.le_of_ble_eq_true rfl, Nat.le_of_ble_eq_true rfl⟩) ⟨fun a U g mk q => by obtain ⟨q0, q1, qP, qK, qD⟩ := q; exact ⟨q0, q1, qP, va_K.moved (u := U) (U := U.calling g mk a) (Vm.Alike.refl U.vm) qK, qD⟩, va_recv hKc hPc (ci := 0) (q0 := 0) rfl rfl, fun U hU hW => ⟨rfl, by rw [hU], by rw [hU]; exact hPc, va_K.moved hW.alike hKc, hDc.weaken (fun _ _ _ _ => trivial)⟩⟩ rfl rfl hl.1 rfl (lv_room (Nat.le_of_ble_eq_true rfl)) dX0_mirror_40 ⟨Nat.le_of_ble_eq_true rfl, Nat.le_of_ble_eq_true rfl⟩) hS (fun q _ h => hFc q h) hFc (fun u40 t H1 locs ht hvm w40 hB hz1 hk1 hS => ?_)
              obtain ⟨hP1, -, hD1⟩ := hB
              rw [ht] at hP1
              try dsimp only at w40
              obtain ⟨hP, hD⟩ := va_join (wr := []) (w1 := [(h0, .inr (0, [.ref a1, .ref a2, .int (nI w), .int (nI h), .int (nI kw), .int (nI kh)])), (a1, .inl (cA, 4096, .inl u40)), (a2, .inl (cB, 4096, .inl g))]) hP hD [0, 1, 2] [] rfl rfl (by decide) (by decide) hk1 hFc hP1 hD1
              generalize H1 = H at hP hS ⊢
              have hP : va_P (dC, dI) vwCm [(h0, .inr (0, [.ref a1, .ref a2, .int (nI w), .int (nI h), .int (nI kw), .int (nI kh)])), (a1, .inl (cA, 4096, .inl u40)), (a2, .inl (cB, 4096, .inl g))] H := hP
              have hD : va_D A [(h0, .inr (0, [.ref a1, .ref a2, .int (nI w), .int (nI h), .int (nI kw), .int (nI kh)])), (a1, .inl (cA, 4096, .inl u40)), (a2, .inl (cB, 4096, .inl g))] := hD
              refine lv_iinc (v := nI (x0 + 1)) (lv' := [(2, .int (nI (x0 + 1))), (0, .ref h0), (1, .int (nI y0))]) hx hb dX0_mirror_43 hl (k := 2) rfl (by rw [← nI_add]; rfl) (by decide) rfl (fun ls hl => ?_)
              refine lv_goto (tgt := 12) hx hb dX0_mirror_46 (by decide) ?_
              exact ih12 (x0 + 1) u40 (by omega) (by omega) (cf_mx_s hI1 hw (by omega) w40) H locs hP hD hS ls (lv_sub hl [1, 2, 0] rfl)
        exact lp12 (w / 2 + 1) 0 fc (by omega) (by omega) hI H locs hP hD hS ls (lv_sub hl [1, 2, 0] rfl)
  exact lp2 (h + 1) 0 f (by omega) (by omega) cf_mx_0 s.heap [] hP hD hS ls (lv_sub hl [1, 0] rfl)
set_option maxHeartbeats 4000000 in
set_option maxRecDepth 100000 in
/-- X0_flip -/
theorem kX0_flip (l : Launch) (dC : Nat → ClassId) (dI : Nat → Nat → Nat) (sz : Nat) (h0 a1 a2 : Nat) (cA cB : ClassId) (f g : Nat → Int32) (w h kw kh : Nat) (hw : w ≤ 8) (hh : h ≤ 8) (hw1 : 1 ≤ w) (hh1 : 1 ≤ h) : Met l yX0_flip wsX0_flip ({ frames := 2, cells := 0, slots := 0, locals := 46 }) (va_Pc [.ref h0] (fun U => U.heap.size = sz ∧ va_P (dC, dI) vwCm [(h0, .inr (0, [.ref a1, .ref a2, .int (nI w), .int (nI h), .int (nI kw), .int (nI kh)])), (a1, .inl (cA, 4096, .inl f)), (a2, .inl (cB, 4096, .inl g))] U.heap ∧ va_K (dC, dI) vwCm [(cA, .int), (cB, .int)] U ∧ va_D (fun _ => True) [(h0, .inr (0, [.ref a1, .ref a2, .int (nI w), .int (nI h), .int (nI kw), .int (nI kh)])), (a1, .inl (cA, 4096, .inl f)), (a2, .inl (cB, 4096, .inl g))])) (va_Qv (fun u : Nat → Int32 => cf_Ag w h (cf_V u) (cf_fl h (cf_V f))) (fun (u : Nat → Int32) (t : State) => va_P (dC, dI) vwCm [(h0, .inr (0, [.ref a1, .ref a2, .int (nI w), .int (nI h), .int (nI kw), .int (nI kh)])), (a1, .inl (cA, 4096, .inl u)), (a2, .inl (cB, 4096, .inl g))] t.heap ∧ va_K (dC, dI) vwCm [(cA, .int), (cB, .int)] t ∧ va_D (va_A [(h0, .inr (0, [.ref a1, .ref a2, .int (nI w), .int (nI h), .int (nI kw), .int (nI kh)])), (a1, .inl (cA, 4096, .inl f)), (a2, .inl (cB, 4096, .inl g))] sz) [(h0, .inr (0, [.ref a1, .ref a2, .int (nI w), .int (nI h), .int (nI kw), .int (nI kh)])), (a1, .inl (cA, 4096, .inl u)), (a2, .inl (cB, 4096, .inl g))]) (va_A [(h0, .inr (0, [.ref a1, .ref a2, .int (nI w), .int (nI h), .int (nI kw), .int (nI kh)])), (a1, .inl (cA, 4096, .inl f)), (a2, .inl (cB, 4096, .inl g))] sz)) 0 0 (va_A [(h0, .inr (0, [.ref a1, .ref a2, .int (nI w), .int (nI h), .int (nI kw), .int (nI kh)])), (a1, .inl (cA, 4096, .inl f)), (a2, .inl (cB, 4096, .inl g))] sz) := by
  refine Met.ofW (cc := cX0_flip) (maxL := 3) (ret := none) (by decide) rfl ?_
  intro p e s m args below meth c s₁ B hml hv
  obtain ⟨rfl, hsz, hP, hK, hD0⟩ := hv
  have hx := B.exec
  have hb := B.bytes
  have hr := B.returns
  have hts := atoms_spec (ws := wsX0_flip) B.pre
  have hown : s.vm.findClass RX0 = some m.cls := findClass_of_methodNamed B.named
  have hlocks := B.notSynchronized
  subst hsz
  have hD := hD0.self (sz := s.heap.size)
  generalize hAe : va_A [(h0, .inr (0, [.ref a1, .ref a2, .int (nI w), .int (nI h), .int (nI kw), .int (nI kh)])), (a1, .inl (cA, 4096, .inl f)), (a2, .inl (cB, 4096, .inl g))] s.heap.size = A at hD ⊢
  have hA : ∀ q : Nat, s.heap.size ≤ q → A q := fun q h => by rw [← hAe]; exact Or.inr h
  have hS : va_S A s.heap s.heap [] := va_S.rf
  have hP : va_P (dC, dI) vwCm [(h0, .inr (0, [.ref a1, .ref a2, .int (nI w), .int (nI h), .int (nI kw), .int (nI kh)])), (a1, .inl (cA, 4096, .inl f)), (a2, .inl (cB, 4096, .inl g))] s.heap := hP
  have hl := lv_entry ([.ref h0]) (n := 3) (Nat.le_of_ble_eq_true rfl)
  rw [lg_entry_eq]
  generalize (lg_sl ([.ref h0]) ++ List.replicate (3 - (lg_sl ([.ref h0])).length) Slot.unset).toArray = ls at hl ⊢
  have hl : lv_has ls 3 [(0, .ref h0)] := hl
  refine lv_iconst (v := nI 0) hx hb dX0_flip_0 (by decide +kernel) ?_
  refine lv_istore_n (lv' := [(1, .int (nI 0)), (0, .ref h0)]) hx hb dX0_flip_1 rfl hl (by decide) rfl (fun ls hl => ?_)
  have lp2 : ∀ (n2 : Nat) (y0 : Nat) (fc : Nat → Int32), y0 ≤ h / 2 → h / 2 < y0 + n2 → cf_fx w h y0 0 f fc → ∀ (H : Heap) (locs : List Loc), va_P (dC, dI) vwCm [(h0, .inr (0, [.ref a1, .ref a2, .int (nI w), .int (nI h), .int (nI kw), .int (nI kh)])), (a1, .inl (cA, 4096, .inl fc)), (a2, .inl (cB, 4096, .inl g))] H → va_D A [(h0, .inr (0, [.ref a1, .ref a2, .int (nI w), .int (nI h), .int (nI kw), .int (nI kh)])), (a1, .inl (cA, 4096, .inl fc)), (a2, .inl (cB, 4096, .inl g))] → va_S A s.heap H locs → ∀ (ls : Array Slot), lv_has ls 3 [(0, .ref h0), (1, .int (nI y0))] → W p l e (headSpec wsX0_flip ({ frames := 2, cells := 0, slots := 0, locals := 46 })).room s m ([.ref h0] : List Value).toArray below meth c H locs 0 0 (MQ below (va_Qv (fun u : Nat → Int32 => cf_Ag w h (cf_V u) (cf_fl h (cf_V f))) (fun (u : Nat → Int32) (t : State) => va_P (dC, dI) vwCm [(h0, .inr (0, [.ref a1, .ref a2, .int (nI w), .int (nI h), .int (nI kw), .int (nI kh)])), (a1, .inl (cA, 4096, .inl u)), (a2, .inl (cB, 4096, .inl g))] t.heap ∧ va_K (dC, dI) vwCm [(cA, .int), (cB, .int)] t ∧ va_D A [(h0, .inr (0, [.ref a1, .ref a2, .int (nI w), .int (nI h), .int (nI kw), .int (nI kh)])), (a1, .inl (cA, 4096, .inl u)), (a2, .inl (cB, 4096, .inl g))]) A) ([.ref h0] : List Value).toArray s 0 0 A) (F0 m 2 ls []) := by
    intro n2
    induction n2 with
    | zero => intro y0 fc h1 h2; exact absurd h2 (by omega)
    | succ n2 ih2 =>
      intro y0 fc hk2 hn2 hI H locs hP hD hS ls hl
      refine lv_iload_n hx hb dX0_flip_2 rfl (lv_at hl 1 rfl) ?_
      refine lv_aload_n hx hb dX0_flip_3 rfl (lv_at hl 0 rfl) ?_
      refine va_get (D := (dC, dI)) (ci := 0) (v := .int (nI h)) (C := RX0) (T := TX0) (N := 6) hx hb hts (by decide +kernel) hown hK hP 0 rfl rfl 3 (by decide) (hts (.fieldLink RX0 17 "CoefTurns" "height" "I") (by decide +kernel)) (fun _ h9 => h9) rfl dX0_flip_4 ?_
      refine lv_iconst (v := nI 2) hx hb dX0_flip_7 (by decide +kernel) ?_
      refine lv_idiv hx hb dX0_flip_8 (nI_ne0 (by omega) (by omega)) ?_
      refine cf_top (pk_div (by omega) (by omega) (by omega)) ?_
      refine lv_icmp_ge (tgt := 55) hx hb dX0_flip_9 (by decide) (fun c9 => ?_) (fun c9 => ?_)
      · skip
        have c9 := (nI_leI (a := h / 2) (b := y0) (by omega) (by omega)).mp c9
        refine lv_aload_n hx hb dX0_flip_55 rfl (lv_at hl 0 rfl) ?_
        refine lv_bipush (v := nI 8) hx hb dX0_flip_56 (by decide +kernel) ?_
        have hPc := hP.sub (ws' := [(h0, .inr (0, [.ref a1, .ref a2, .int (nI w), .int (nI h), .int (nI kw), .int (nI kh)])), (a1, .inl (cA, 4096, .inl fc)), (a2, .inl (cB, 4096, .inl g))]) [0, 1, 2] rfl
        have hKc := hK.sub (tys' := [(cA, .int), (cB, .int)]) [0, 1] rfl
        have hDc := hD.sub (ws' := [(h0, .inr (0, [.ref a1, .ref a2, .int (nI w), .int (nI h), .int (nI kw), .int (nI kh)])), (a1, .inl (cA, 4096, .inl fc)), (a2, .inl (cB, 4096, .inl g))]) [0, 1, 2] (by decide) rfl
        have hFc := va_free (wc := [(h0, .inr (0, [.ref a1, .ref a2, .int (nI w), .int (nI h), .int (nI kw), .int (nI kh)])), (a1, .inl (cA, 4096, .inl fc)), (a2, .inl (cB, 4096, .inl g))]) hD hS hA [0, 1, 2] rfl
        refine va_callv (va_runV (As := [.int (nI 8)]) (rest := []) ⟨hx, hb, hml, hown, hts⟩ (kX0_negatePlaces l dC dI H.size h0 a1 a2 cA cB fc g w h kw kh 8 (by omega) (by omega) (by decide)) (cwV 1 hts gX0_flip_X0_negatePlaces rfl rfl rfl (by decide +kernel) ⟨Nat.le_of_ble_eq_true rfl, Nat.le_of_ble_eq_true rfl⟩) ⟨fun a U g mk q => by obtain ⟨q0, q1, qP, qK, qD⟩ := q; exact ⟨q0, q1, qP, va_K.moved (u := U) (U := U.calling g mk a) (Vm.Alike.refl U.vm) qK, qD⟩, va_recv hKc hPc (ci := 0) (q0 := 0) rfl rfl, fun U hU hW => ⟨rfl, by rw [hU], by rw [hU]; exact hPc, va_K.moved hW.alike hKc, hDc.weaken (fun _ _ _ _ => trivial)⟩⟩ rfl rfl hl.1 rfl (lv_room (Nat.le_of_ble_eq_true rfl)) dX0_flip_58 ⟨Nat.le_of_ble_eq_true rfl, Nat.le_of_ble_eq_true rfl⟩) hS (fun q _ h => hFc q h) hFc (fun u58 t H1 locs ht hvm w58 hB hz1 hk1 hS => ?_)
        obtain ⟨hP1, -, hD1⟩ := hB
        rw [ht] at hP1
        try dsimp only at w58
        obtain ⟨hP, hD⟩ := va_join (wr := []) (w1 := [(h0, .inr (0, [.ref a1, .ref a2, .int (nI w), .int (nI h), .int (nI kw), .int (nI kh)])), (a1, .inl (cA, 4096, .inl u58)), (a2, .inl (cB, 4096, .inl g))]) hP hD [0, 1, 2] [] rfl rfl (by decide) (by decide) hk1 hFc hP1 hD1
        generalize H1 = H at hP hS ⊢
        have hP : va_P (dC, dI) vwCm [(h0, .inr (0, [.ref a1, .ref a2, .int (nI w), .int (nI h), .int (nI kw), .int (nI kh)])), (a1, .inl (cA, 4096, .inl u58)), (a2, .inl (cB, 4096, .inl g))] H := hP
        have hD : va_D A [(h0, .inr (0, [.ref a1, .ref a2, .int (nI w), .int (nI h), .int (nI kw), .int (nI kh)])), (a1, .inl (cA, 4096, .inl u58)), (a2, .inl (cB, 4096, .inl g))] := hD
        have hP9 := hP.sub (ws' := [(h0, .inr (0, [.ref a1, .ref a2, .int (nI w), .int (nI h), .int (nI kw), .int (nI kh)])), (a1, .inl (cA, 4096, .inl u58)), (a2, .inl (cB, 4096, .inl g))]) [0, 1, 2] rfl
        have hD9 := hD.sub (ws' := [(h0, .inr (0, [.ref a1, .ref a2, .int (nI w), .int (nI h), .int (nI kw), .int (nI kh)])), (a1, .inl (cA, 4096, .inl u58)), (a2, .inl (cB, 4096, .inl g))]) [0, 1, 2] (by decide) rfl
        exact W.vret hx hb hr (fun t ht hW => ⟨⟨u58, rfl, (by have e : y0 = h / 2 := (by omega); exact cf_fl_fin hI e w58), by rw [ht]; exact hP9, va_K.moved hW.alike hK, hD9⟩, hS.F ht⟩) hS.2.2 dX0_flip_61
      · skip
        have c9 := mt (nI_leI (a := h / 2) (b := y0) (by omega) (by omega)).mpr c9
        refine lv_iconst (v := nI 0) hx hb dX0_flip_12 (by decide +kernel) ?_
        refine lv_istore_n (lv' := [(2, .int (nI 0)), (0, .ref h0), (1, .int (nI y0))]) hx hb dX0_flip_13 rfl hl (by decide) rfl (fun ls hl => ?_)
        have lp14 : ∀ (n14 : Nat) (x0 : Nat) (fd : Nat → Int32), x0 ≤ w → w < x0 + n14 → cf_fx w h y0 x0 f fd → ∀ (H : Heap) (locs : List Loc), va_P (dC, dI) vwCm [(h0, .inr (0, [.ref a1, .ref a2, .int (nI w), .int (nI h), .int (nI kw), .int (nI kh)])), (a1, .inl (cA, 4096, .inl fd)), (a2, .inl (cB, 4096, .inl g))] H → va_D A [(h0, .inr (0, [.ref a1, .ref a2, .int (nI w), .int (nI h), .int (nI kw), .int (nI kh)])), (a1, .inl (cA, 4096, .inl fd)), (a2, .inl (cB, 4096, .inl g))] → va_S A s.heap H locs → ∀ (ls : Array Slot), lv_has ls 3 [(0, .ref h0), (1, .int (nI y0)), (2, .int (nI x0))] → W p l e (headSpec wsX0_flip ({ frames := 2, cells := 0, slots := 0, locals := 46 })).room s m ([.ref h0] : List Value).toArray below meth c H locs 0 0 (MQ below (va_Qv (fun u : Nat → Int32 => cf_Ag w h (cf_V u) (cf_fl h (cf_V f))) (fun (u : Nat → Int32) (t : State) => va_P (dC, dI) vwCm [(h0, .inr (0, [.ref a1, .ref a2, .int (nI w), .int (nI h), .int (nI kw), .int (nI kh)])), (a1, .inl (cA, 4096, .inl u)), (a2, .inl (cB, 4096, .inl g))] t.heap ∧ va_K (dC, dI) vwCm [(cA, .int), (cB, .int)] t ∧ va_D A [(h0, .inr (0, [.ref a1, .ref a2, .int (nI w), .int (nI h), .int (nI kw), .int (nI kh)])), (a1, .inl (cA, 4096, .inl u)), (a2, .inl (cB, 4096, .inl g))]) A) ([.ref h0] : List Value).toArray s 0 0 A) (F0 m 14 ls []) := by
          intro n14
          induction n14 with
          | zero => intro x0 fd h1 h2; exact absurd h2 (by omega)
          | succ n14 ih14 =>
            intro x0 fd hk14 hn14 hI1 H locs hP hD hS ls hl
            refine lv_iload_n hx hb dX0_flip_14 rfl (lv_at hl 2 rfl) ?_
            refine lv_aload_n hx hb dX0_flip_15 rfl (lv_at hl 0 rfl) ?_
            refine va_get (D := (dC, dI)) (ci := 0) (v := .int (nI w)) (C := RX0) (T := TX0) (N := 6) hx hb hts (by decide +kernel) hown hK hP 0 rfl rfl 2 (by decide) (hts (.fieldLink RX0 13 "CoefTurns" "width" "I") (by decide +kernel)) (fun _ h9 => h9) rfl dX0_flip_16 ?_
            refine lv_icmp_ge (tgt := 49) hx hb dX0_flip_19 (by decide) (fun c19 => ?_) (fun c19 => ?_)
            · skip
              have c19 := (nI_leI (a := w) (b := x0) (by omega) (by omega)).mp c19
              refine lv_iinc (v := nI (y0 + 1)) (lv' := [(1, .int (nI (y0 + 1))), (0, .ref h0), (2, .int (nI x0))]) hx hb dX0_flip_49 hl (k := 1) rfl (by rw [← nI_add]; rfl) (by decide) rfl (fun ls hl => ?_)
              refine lv_goto (tgt := 2) hx hb dX0_flip_52 (by decide) ?_
              exact ih2 (y0 + 1) fd (by omega) (by omega) (cf_fx_r hI1 (by omega)) H locs hP hD hS ls (lv_sub hl [1, 0] rfl)
            · skip
              have c19 := mt (nI_leI (a := w) (b := x0) (by omega) (by omega)).mpr c19
              refine lv_aload_n hx hb dX0_flip_22 rfl (lv_at hl 0 rfl) ?_
              refine lv_iload_n hx hb dX0_flip_23 rfl (lv_at hl 2 rfl) ?_
              refine lv_iload_n hx hb dX0_flip_24 rfl (lv_at hl 1 rfl) ?_
              refine vp_callSi (W.runS (As := [.int (nI x0), .int (nI y0)]) (rest := [.ref h0]) ⟨hx, hb, hml, hown, hts⟩ (kX0_blockStart l x0 y0) (va_cwS 2 hts gX0_flip_X0_blockStart rfl rfl rfl (by decide +kernel) ⟨Nat.le_of_ble_eq_true rfl, Nat.le_of_ble_eq_true rfl⟩) ⟨fun a U g mk q => q, fun U hU hW => ⟨rfl, trivial⟩⟩ rfl rfl hl.1 rfl (lv_room (Nat.le_of_ble_eq_true rfl)) dX0_flip_25 ⟨Nat.le_of_ble_eq_true rfl, Nat.le_of_ble_eq_true rfl⟩) (fun r25 w25 => ?_)
              subst w25
              refine lv_iload_n hx hb dX0_flip_28 rfl (lv_at hl 2 rfl) ?_
              refine lv_aload_n hx hb dX0_flip_29 rfl (lv_at hl 0 rfl) ?_
              refine va_get (D := (dC, dI)) (ci := 0) (v := .int (nI h)) (C := RX0) (T := TX0) (N := 6) hx hb hts (by decide +kernel) hown hK hP 0 rfl rfl 3 (by decide) (hts (.fieldLink RX0 17 "CoefTurns" "height" "I") (by decide +kernel)) (fun _ h9 => h9) rfl dX0_flip_30 ?_
              refine lv_iconst (v := nI 1) hx hb dX0_flip_33 (by decide +kernel) ?_
              refine lv_isub hx hb dX0_flip_34 ?_
              refine cf_top (pk_sub (by omega)) ?_
              refine lv_iload_n hx hb dX0_flip_35 rfl (lv_at hl 1 rfl) ?_
              refine lv_isub hx hb dX0_flip_36 ?_
              refine cf_top (pk_sub (by omega)) ?_
              refine vp_callSi (W.runS (As := [.int (nI x0), .int (nI ((h - 1) - y0))]) (rest := [.int (nI (64 * (8 * y0 + x0))), .ref h0]) ⟨hx, hb, hml, hown, hts⟩ (kX0_blockStart l x0 ((h - 1) - y0)) (va_cwS 2 hts gX0_flip_X0_blockStart rfl rfl rfl (by decide +kernel) ⟨Nat.le_of_ble_eq_true rfl, Nat.le_of_ble_eq_true rfl⟩) ⟨fun a U g mk q => q, fun U hU hW => ⟨rfl, trivial⟩⟩ rfl rfl hl.1 rfl (lv_room (Nat.le_of_ble_eq_true rfl)) dX0_flip_37 ⟨Nat.le_of_ble_eq_true rfl, Nat.le_of_ble_eq_true rfl⟩) (fun r37 w37 => ?_)
              subst w37
              have hPc := hP.sub (ws' := [(h0, .inr (0, [.ref a1, .ref a2, .int (nI w), .int (nI h), .int (nI kw), .int (nI kh)])), (a1, .inl (cA, 4096, .inl fd)), (a2, .inl (cB, 4096, .inl g))]) [0, 1, 2] rfl
              have hKc := hK.sub (tys' := [(cA, .int), (cB, .int)]) [0, 1] rfl
              have hDc := hD.sub (ws' := [(h0, .inr (0, [.ref a1, .ref a2, .int (nI w), .int (nI h), .int (nI kw), .int (nI kh)])), (a1, .inl (cA, 4096, .inl fd)), (a2, .inl (cB, 4096, .inl g))]) [0, 1, 2] (by decide) rfl
              have hFc := va_free (wc := [(h0, .inr (0, [.ref a1, .ref a2, .int (nI w), .int (nI h), .int (nI kw), .int (nI kh)])), (a1, .inl (cA, 4096, .inl fd)), (a2, .inl (cB, 4096, .inl g))]) hD hS hA [0, 1, 2] rfl
              refine va_callv (va_runV (As := [.int (nI (64 * (8 * y0 + x0))), .int (nI (64 * (8 * ((h - 1) - y0) + x0)))]) (rest := []) ⟨hx, hb, hml, hown, hts⟩ (kX0_exchangeBlocks l dC dI H.size h0 a1 a2 cA cB fd g w h kw kh (8 * y0 + x0) (8 * ((h - 1) - y0) + x0) (by omega) (by omega)) (cwV 2 hts gX0_flip_X0_exchangeBlocks rfl rfl rfl (by decide +kernel) ⟨Nat.le_of_ble_eq_true rfl, Nat.le_of_ble_eq_true rfl⟩) ⟨fun a U g mk q => by obtain ⟨q0, q1, qP, qK, qD⟩ := q; exact ⟨q0, q1, qP, va_K.moved (u := U) (U := U.calling g mk a) (Vm.Alike.refl U.vm) qK, qD⟩, va_recv hKc hPc (ci := 0) (q0 := 0) rfl rfl, fun U hU hW => ⟨rfl, by rw [hU], by rw [hU]; exact hPc, va_K.moved hW.alike hKc, hDc.weaken (fun _ _ _ _ => trivial)⟩⟩ rfl rfl hl.1 rfl (lv_room (Nat.le_of_ble_eq_true rfl)) dX0_flip_40 ⟨Nat.le_of_ble_eq_true rfl, Nat.le_of_ble_eq_true rfl⟩) hS (fun q _ h => hFc q h) hFc (fun u40 t H1 locs ht hvm w40 hB hz1 hk1 hS => ?_)
              obtain ⟨hP1, -, hD1⟩ := hB
              rw [ht] at hP1
              try dsimp only at w40
              obtain ⟨hP, hD⟩ := va_join (wr := []) (w1 := [(h0, .inr (0, [.ref a1, .ref a2, .int (nI w), .int (nI h), .int (nI kw), .int (nI kh)])), (a1, .inl (cA, 4096, .inl u40)), (a2, .inl (cB, 4096, .inl g))]) hP hD [0, 1, 2] [] rfl rfl (by decide) (by decide) hk1 hFc hP1 hD1
              generalize H1 = H at hP hS ⊢
              have hP : va_P (dC, dI) vwCm [(h0, .inr (0, [.ref a1, .ref a2, .int (nI w), .int (nI h), .int (nI kw), .int (nI kh)])), (a1, .inl (cA, 4096, .inl u40)), (a2, .inl (cB, 4096, .inl g))] H := hP
              have hD : va_D A [(h0, .inr (0, [.ref a1, .ref a2, .int (nI w), .int (nI h), .int (nI kw), .int (nI kh)])), (a1, .inl (cA, 4096, .inl u40)), (a2, .inl (cB, 4096, .inl g))] := hD
              refine lv_iinc (v := nI (x0 + 1)) (lv' := [(2, .int (nI (x0 + 1))), (0, .ref h0), (1, .int (nI y0))]) hx hb dX0_flip_43 hl (k := 2) rfl (by rw [← nI_add]; rfl) (by decide) rfl (fun ls hl => ?_)
              refine lv_goto (tgt := 14) hx hb dX0_flip_46 (by decide) ?_
              exact ih14 (x0 + 1) u40 (by omega) (by omega) (cf_fx_s hI1 hw (by omega) (by omega) w40) H locs hP hD hS ls (lv_sub hl [1, 2, 0] rfl)
        exact lp14 (w + 1) 0 fc (by omega) (by omega) hI H locs hP hD hS ls (lv_sub hl [1, 2, 0] rfl)
  exact lp2 (h / 2 + 1) 0 f (by omega) (by omega) cf_fx_0 s.heap [] hP hD hS ls (lv_sub hl [1, 0] rfl)
