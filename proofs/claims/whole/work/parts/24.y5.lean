set_option maxHeartbeats 4000000 in
set_option maxRecDepth 100000 in
/-- Y1_four -/
theorem kY1_four (l : Launch) (dC : Nat → ClassId) (dI : Nat → Nat → Nat) (sz : Nat) (o b1 b2 b3 : Nat) (cC cD cE : ClassId) (f g md : Nat → Int32) (th : Int32) (w h kw kh : Nat) (bx bz v t : Int32) (hw : w ≤ 8) (hh : h ≤ 8) : Met l yY1_four wsY1_four ({ frames := 1, cells := 0, slots := 0, locals := 22 }) (va_Pc [.ref o, .int bx, .int bz, .int v, .int t] (fun U => U.heap.size = sz ∧ va_P (dC, dI) vwCm [(o, .inr (1, [.int th, .int (nI w), .int (nI h), .int (nI kw), .int (nI kh), .ref b1, .ref b2, .ref b3])), (b1, .inl (cC, 4096, .inl f)), (b2, .inl (cD, 4096, .inl g)), (b3, .inl (cE, 4096, .inl md))] U.heap ∧ va_K (dC, dI) vwCm [(cC, .int), (cD, .int), (cE, .int)] U ∧ va_D (fun _ => True) [(o, .inr (1, [.int th, .int (nI w), .int (nI h), .int (nI kw), .int (nI kh), .ref b1, .ref b2, .ref b3])), (b1, .inl (cC, 4096, .inl f)), (b2, .inl (cD, 4096, .inl g)), (b3, .inl (cE, 4096, .inl md))])) (va_Ql (fun (r : Int64) (_ : Unit) => r = cf_fou w h (cf_V f) bx bz v t) (fun (u : Unit) (t : State) => va_P (dC, dI) vwCm [(o, .inr (1, [.int (nI 0), .int (nI w), .int (nI h), .int (nI kw), .int (nI kh), .ref b1, .ref b2, .ref b3])), (b1, .inl (cC, 4096, .inl f)), (b2, .inl (cD, 4096, .inl g)), (b3, .inl (cE, 4096, .inl md))] t.heap ∧ va_K (dC, dI) vwCm [(cC, .int), (cD, .int), (cE, .int)] t ∧ va_D (va_A [(o, .inr (1, [.int th, .int (nI w), .int (nI h), .int (nI kw), .int (nI kh), .ref b1, .ref b2, .ref b3])), (b1, .inl (cC, 4096, .inl f)), (b2, .inl (cD, 4096, .inl g)), (b3, .inl (cE, 4096, .inl md))] sz) [(o, .inr (1, [.int (nI 0), .int (nI w), .int (nI h), .int (nI kw), .int (nI kh), .ref b1, .ref b2, .ref b3])), (b1, .inl (cC, 4096, .inl f)), (b2, .inl (cD, 4096, .inl g)), (b3, .inl (cE, 4096, .inl md))]) (va_A [(o, .inr (1, [.int th, .int (nI w), .int (nI h), .int (nI kw), .int (nI kh), .ref b1, .ref b2, .ref b3])), (b1, .inl (cC, 4096, .inl f)), (b2, .inl (cD, 4096, .inl g)), (b3, .inl (cE, 4096, .inl md))] sz)) 0 0 (va_A [(o, .inr (1, [.int th, .int (nI w), .int (nI h), .int (nI kw), .int (nI kh), .ref b1, .ref b2, .ref b3])), (b1, .inl (cC, 4096, .inl f)), (b2, .inl (cD, 4096, .inl g)), (b3, .inl (cE, 4096, .inl md))] sz) := by
  refine Met.ofW (cc := cY1_four) (maxL := 8) (ret := (some .long)) (by decide) rfl ?_
  intro p e s m args below meth c s₁ B hml hv
  obtain ⟨rfl, hsz, hP, hK, hD0⟩ := hv
  have hx := B.exec
  have hb := B.bytes
  have hr := B.returns
  have hts := atoms_spec (ws := wsY1_four) B.pre
  have hown : s.vm.findClass RY1 = some m.cls := findClass_of_methodNamed B.named
  have hlocks := B.notSynchronized
  subst hsz
  have hD := hD0.self (sz := s.heap.size)
  generalize hAe : va_A [(o, .inr (1, [.int th, .int (nI w), .int (nI h), .int (nI kw), .int (nI kh), .ref b1, .ref b2, .ref b3])), (b1, .inl (cC, 4096, .inl f)), (b2, .inl (cD, 4096, .inl g)), (b3, .inl (cE, 4096, .inl md))] s.heap.size = A at hD ⊢
  have hA : ∀ q : Nat, s.heap.size ≤ q → A q := fun q h => by rw [← hAe]; exact Or.inr h
  have hS : va_S A s.heap s.heap [] := va_S.rf
  have hP : va_P (dC, dI) vwCm [(o, .inr (1, [.int th, .int (nI w), .int (nI h), .int (nI kw), .int (nI kh), .ref b1, .ref b2, .ref b3])), (b1, .inl (cC, 4096, .inl f)), (b2, .inl (cD, 4096, .inl g)), (b3, .inl (cE, 4096, .inl md))] s.heap := hP
  have hl := lv_entry ([.ref o, .int bx, .int bz, .int v, .int t]) (n := 8) (Nat.le_of_ble_eq_true rfl)
  rw [lg_entry_eq]
  generalize (lg_sl ([.ref o, .int bx, .int bz, .int v, .int t]) ++ List.replicate (8 - (lg_sl ([.ref o, .int bx, .int bz, .int v, .int t])).length) Slot.unset).toArray = ls at hl ⊢
  have hl : lv_has ls 8 [(0, .ref o), (1, .int bx), (2, .int bz), (3, .int v), (4, .int t)] := hl
  refine lv_aload_n hx hb dY1_four_0 rfl (lv_at hl 0 rfl) ?_
  refine lv_iconst (v := nI 0) hx hb dY1_four_1 (by decide +kernel) ?_
  refine va_put (D := (dC, dI)) (ci := 1) (v := .int (nI 0)) (ty := .int) (C := RY1) (T := TY1) (N := 8) hx hb hts (by decide +kernel) tyY1 tyY1_ok nmY1 hown hK hP hD hS 0 rfl rfl 0 (by decide) (hts (.fieldLink RY1 36 "CoefTurnsModel" "thrown" "I") (by decide +kernel)) (fun _ h9 => h9) rfl (by decide +kernel) rfl rfl (Nat.le_of_ble_eq_true rfl) dY1_four_2 (fun H locs hP hD hS => ?_)
  have hP : va_P (dC, dI) vwCm [(o, .inr (1, [.int (nI 0), .int (nI w), .int (nI h), .int (nI kw), .int (nI kh), .ref b1, .ref b2, .ref b3])), (b1, .inl (cC, 4096, .inl f)), (b2, .inl (cD, 4096, .inl g)), (b3, .inl (cE, 4096, .inl md))] H := hP
  have hD : va_D A [(o, .inr (1, [.int (nI 0), .int (nI w), .int (nI h), .int (nI kw), .int (nI kh), .ref b1, .ref b2, .ref b3])), (b1, .inl (cC, 4096, .inl f)), (b2, .inl (cD, 4096, .inl g)), (b3, .inl (cE, 4096, .inl md))] := hD
  refine lv_aload_n hx hb dY1_four_5 rfl (lv_at hl 0 rfl) ?_
  refine lv_iload_n hx hb dY1_four_6 rfl (lv_at hl 1 rfl) ?_
  refine lv_iload_n hx hb dY1_four_7 rfl (lv_at hl 2 rfl) ?_
  have hPc := hP.sub (ws' := [(o, .inr (1, [.int (nI 0), .int (nI w), .int (nI h), .int (nI kw), .int (nI kh), .ref b1, .ref b2, .ref b3])), (b1, .inl (cC, 4096, .inl f)), (b2, .inl (cD, 4096, .inl g)), (b3, .inl (cE, 4096, .inl md))]) [0, 1, 2, 3] rfl
  have hKc := hK.sub (tys' := [(cC, .int), (cD, .int), (cE, .int)]) [0, 1, 2] rfl
  refine vp_callSi (W.runV (As := [.int bx, .int bz]) (rest := []) ⟨hx, hb, hml, hown, hts⟩ (kY1_isBlock l dC dI o b1 b2 b3 cC cD cE f g md (nI 0) w h kw kh bx bz) (cwV 2 hts gY1_four_Y1_isBlock rfl rfl rfl (by decide +kernel) ⟨Nat.le_of_ble_eq_true rfl, Nat.le_of_ble_eq_true rfl⟩) ⟨fun a U g mk q => by obtain ⟨q0, qP, qK⟩ := q; exact ⟨q0, qP, va_K.moved (u := U) (U := U.calling g mk a) (Vm.Alike.refl U.vm) qK⟩, va_recv hKc hPc (ci := 1) (q0 := 0) rfl rfl, fun U hU hW => ⟨rfl, by rw [hU]; exact hPc, va_K.moved hW.alike hKc⟩⟩ rfl rfl hl.1 rfl (lv_room (Nat.le_of_ble_eq_true rfl)) dY1_four_8 ⟨Nat.le_of_ble_eq_true rfl, Nat.le_of_ble_eq_true rfl⟩) (fun r8 w8 => ?_)
  subst w8
  refine lv_if_eq (tgt := 35) hx hb dY1_four_11 (by decide) (fun c11 => ?_) (fun c11 => ?_)
  · skip
    refine lv_lconst (v := 0) hx hb dY1_four_35 (by decide +kernel) ?_
    have hP9 := hP.sub (ws' := [(o, .inr (1, [.int (nI 0), .int (nI w), .int (nI h), .int (nI kw), .int (nI kh), .ref b1, .ref b2, .ref b3])), (b1, .inl (cC, 4096, .inl f)), (b2, .inl (cD, 4096, .inl g)), (b3, .inl (cE, 4096, .inl md))]) [0, 1, 2, 3] rfl
    have hD9 := hD.sub (ws' := [(o, .inr (1, [.int (nI 0), .int (nI w), .int (nI h), .int (nI kw), .int (nI kh), .ref b1, .ref b2, .ref b3])), (b1, .inl (cC, 4096, .inl f)), (b2, .inl (cD, 4096, .inl g)), (b3, .inl (cE, 4096, .inl md))]) [0, 1, 2, 3] (by decide) rfl
    exact W.lret hx hb hr (fun t ht hW => ⟨⟨_, (), rfl, (by unfold cf_fou; first | rw [if_pos c11] | rw [if_neg c11, if_pos c15] | rw [if_neg c11, if_neg c15, if_pos ((cf_gt7 v).mp c21)] | rw [if_neg c11, if_neg c15, if_neg (fun g => c21 ((cf_gt7 v).mpr g)), if_pos c26] | rw [if_neg c11, if_neg c15, if_neg (fun g => c21 ((cf_gt7 v).mpr g)), if_neg c26, if_pos (cf_nle c32)]), by rw [ht]; exact hP9, va_K.moved hW.alike hK, hD9⟩, hS.F ht⟩) hS.2.2 dY1_four_36
  · skip
    obtain ⟨x, z, hx_, hz_, ebx, ebz⟩ := cf_ib_1 hw hh c11
    refine lv_iload_n hx hb dY1_four_14 rfl (lv_at hl 3 rfl) ?_
    refine lv_if_lt (tgt := 35) hx hb dY1_four_15 (by decide) (fun c15 => ?_) (fun c15 => ?_)
    · skip
      refine lv_lconst (v := 0) hx hb dY1_four_35 (by decide +kernel) ?_
      have hP9 := hP.sub (ws' := [(o, .inr (1, [.int (nI 0), .int (nI w), .int (nI h), .int (nI kw), .int (nI kh), .ref b1, .ref b2, .ref b3])), (b1, .inl (cC, 4096, .inl f)), (b2, .inl (cD, 4096, .inl g)), (b3, .inl (cE, 4096, .inl md))]) [0, 1, 2, 3] rfl
      have hD9 := hD.sub (ws' := [(o, .inr (1, [.int (nI 0), .int (nI w), .int (nI h), .int (nI kw), .int (nI kh), .ref b1, .ref b2, .ref b3])), (b1, .inl (cC, 4096, .inl f)), (b2, .inl (cD, 4096, .inl g)), (b3, .inl (cE, 4096, .inl md))]) [0, 1, 2, 3] (by decide) rfl
      exact W.lret hx hb hr (fun t ht hW => ⟨⟨_, (), rfl, (by unfold cf_fou; first | rw [if_pos c11] | rw [if_neg c11, if_pos c15] | rw [if_neg c11, if_neg c15, if_pos ((cf_gt7 v).mp c21)] | rw [if_neg c11, if_neg c15, if_neg (fun g => c21 ((cf_gt7 v).mpr g)), if_pos c26] | rw [if_neg c11, if_neg c15, if_neg (fun g => c21 ((cf_gt7 v).mpr g)), if_neg c26, if_pos (cf_nle c32)]), by rw [ht]; exact hP9, va_K.moved hW.alike hK, hD9⟩, hS.F ht⟩) hS.2.2 dY1_four_36
    · skip
      refine lv_iload_n hx hb dY1_four_18 rfl (lv_at hl 3 rfl) ?_
      refine lv_bipush (v := nI 7) hx hb dY1_four_19 (by decide +kernel) ?_
      refine lv_icmp_gt (tgt := 35) hx hb dY1_four_21 (by decide) (fun c21 => ?_) (fun c21 => ?_)
      · skip
        refine lv_lconst (v := 0) hx hb dY1_four_35 (by decide +kernel) ?_
        have hP9 := hP.sub (ws' := [(o, .inr (1, [.int (nI 0), .int (nI w), .int (nI h), .int (nI kw), .int (nI kh), .ref b1, .ref b2, .ref b3])), (b1, .inl (cC, 4096, .inl f)), (b2, .inl (cD, 4096, .inl g)), (b3, .inl (cE, 4096, .inl md))]) [0, 1, 2, 3] rfl
        have hD9 := hD.sub (ws' := [(o, .inr (1, [.int (nI 0), .int (nI w), .int (nI h), .int (nI kw), .int (nI kh), .ref b1, .ref b2, .ref b3])), (b1, .inl (cC, 4096, .inl f)), (b2, .inl (cD, 4096, .inl g)), (b3, .inl (cE, 4096, .inl md))]) [0, 1, 2, 3] (by decide) rfl
        exact W.lret hx hb hr (fun t ht hW => ⟨⟨_, (), rfl, (by unfold cf_fou; first | rw [if_pos c11] | rw [if_neg c11, if_pos c15] | rw [if_neg c11, if_neg c15, if_pos ((cf_gt7 v).mp c21)] | rw [if_neg c11, if_neg c15, if_neg (fun g => c21 ((cf_gt7 v).mpr g)), if_pos c26] | rw [if_neg c11, if_neg c15, if_neg (fun g => c21 ((cf_gt7 v).mpr g)), if_neg c26, if_pos (cf_nle c32)]), by rw [ht]; exact hP9, va_K.moved hW.alike hK, hD9⟩, hS.F ht⟩) hS.2.2 dY1_four_36
      · skip
        refine lv_iload hx hb dY1_four_24 (lv_at hl 4 rfl) ?_
        refine lv_if_lt (tgt := 35) hx hb dY1_four_26 (by decide) (fun c26 => ?_) (fun c26 => ?_)
        · skip
          refine lv_lconst (v := 0) hx hb dY1_four_35 (by decide +kernel) ?_
          have hP9 := hP.sub (ws' := [(o, .inr (1, [.int (nI 0), .int (nI w), .int (nI h), .int (nI kw), .int (nI kh), .ref b1, .ref b2, .ref b3])), (b1, .inl (cC, 4096, .inl f)), (b2, .inl (cD, 4096, .inl g)), (b3, .inl (cE, 4096, .inl md))]) [0, 1, 2, 3] rfl
          have hD9 := hD.sub (ws' := [(o, .inr (1, [.int (nI 0), .int (nI w), .int (nI h), .int (nI kw), .int (nI kh), .ref b1, .ref b2, .ref b3])), (b1, .inl (cC, 4096, .inl f)), (b2, .inl (cD, 4096, .inl g)), (b3, .inl (cE, 4096, .inl md))]) [0, 1, 2, 3] (by decide) rfl
          exact W.lret hx hb hr (fun t ht hW => ⟨⟨_, (), rfl, (by unfold cf_fou; first | rw [if_pos c11] | rw [if_neg c11, if_pos c15] | rw [if_neg c11, if_neg c15, if_pos ((cf_gt7 v).mp c21)] | rw [if_neg c11, if_neg c15, if_neg (fun g => c21 ((cf_gt7 v).mpr g)), if_pos c26] | rw [if_neg c11, if_neg c15, if_neg (fun g => c21 ((cf_gt7 v).mpr g)), if_neg c26, if_pos (cf_nle c32)]), by rw [ht]; exact hP9, va_K.moved hW.alike hK, hD9⟩, hS.F ht⟩) hS.2.2 dY1_four_36
        · skip
          refine lv_iload hx hb dY1_four_29 (lv_at hl 4 rfl) ?_
          refine lv_iconst (v := nI 1) hx hb dY1_four_31 (by decide +kernel) ?_
          refine lv_icmp_le (tgt := 37) hx hb dY1_four_32 (by decide) (fun c32 => ?_) (fun c32 => ?_)
          · skip
            obtain ⟨v0, hv0, ev⟩ := cf_in (by omega) c15 (fun g => c21 ((cf_gt7 v).mpr g))
            obtain ⟨t0, ht0, et⟩ := cf_le1 c26 (cf_nlt c32)
            refine lv_lconst (v := 0) hx hb dY1_four_37 (by decide +kernel) ?_
            refine lv_lstore (lv' := [(5, .long 0), (0, .ref o), (1, .int bx), (2, .int bz), (3, .int v), (4, .int t)]) hx hb dY1_four_38 hl (by decide) rfl (fun ls hl => ?_)
            refine lv_iconst (v := nI 0) hx hb dY1_four_40 (by decide +kernel) ?_
            refine lv_istore (lv' := [(7, .int (nI 0)), (5, .long 0), (0, .ref o), (1, .int bx), (2, .int bz), (3, .int v), (4, .int t)]) hx hb dY1_four_41 hl (by decide) rfl (fun ls hl => ?_)
            have lp43 : ∀ (n43 : Nat) (k : Nat) (acc : Int64), k ≤ 4 → 4 < k + n43 → acc = cf_fo (cf_fst f (64 * (8 * z + x) + 8 * v0 + 4 * t0)) k 0 → ∀ (H : Heap) (locs : List Loc), va_P (dC, dI) vwCm [(o, .inr (1, [.int (nI 0), .int (nI w), .int (nI h), .int (nI kw), .int (nI kh), .ref b1, .ref b2, .ref b3])), (b1, .inl (cC, 4096, .inl f)), (b2, .inl (cD, 4096, .inl g)), (b3, .inl (cE, 4096, .inl md))] H → va_D A [(o, .inr (1, [.int (nI 0), .int (nI w), .int (nI h), .int (nI kw), .int (nI kh), .ref b1, .ref b2, .ref b3])), (b1, .inl (cC, 4096, .inl f)), (b2, .inl (cD, 4096, .inl g)), (b3, .inl (cE, 4096, .inl md))] → va_S A s.heap H locs → ∀ (ls : Array Slot), lv_has ls 8 [(0, .ref o), (1, .int bx), (2, .int bz), (3, .int v), (4, .int t), (5, .long acc), (7, .int (nI k))] → W p l e (headSpec wsY1_four ({ frames := 1, cells := 0, slots := 0, locals := 22 })).room s m ([.ref o, .int bx, .int bz, .int v, .int t] : List Value).toArray below meth c H locs 0 0 (MQ below (va_Ql (fun (r : Int64) (_ : Unit) => r = cf_fou w h (cf_V f) bx bz v t) (fun (u : Unit) (t : State) => va_P (dC, dI) vwCm [(o, .inr (1, [.int (nI 0), .int (nI w), .int (nI h), .int (nI kw), .int (nI kh), .ref b1, .ref b2, .ref b3])), (b1, .inl (cC, 4096, .inl f)), (b2, .inl (cD, 4096, .inl g)), (b3, .inl (cE, 4096, .inl md))] t.heap ∧ va_K (dC, dI) vwCm [(cC, .int), (cD, .int), (cE, .int)] t ∧ va_D A [(o, .inr (1, [.int (nI 0), .int (nI w), .int (nI h), .int (nI kw), .int (nI kh), .ref b1, .ref b2, .ref b3])), (b1, .inl (cC, 4096, .inl f)), (b2, .inl (cD, 4096, .inl g)), (b3, .inl (cE, 4096, .inl md))]) A) ([.ref o, .int bx, .int bz, .int v, .int t] : List Value).toArray s 0 0 A) (F0 m 43 ls []) := by
              intro n43
              induction n43 with
              | zero => intro k acc h1 h2; exact absurd h2 (by omega)
              | succ n43 ih43 =>
                intro k acc hk43 hn43 hI H locs hP hD hS ls hl
                refine lv_iload hx hb dY1_four_43 (lv_at hl 6 rfl) ?_
                refine lv_iconst (v := nI 4) hx hb dY1_four_45 (by decide +kernel) ?_
                refine lv_icmp_ge (tgt := 91) hx hb dY1_four_46 (by decide) (fun c46 => ?_) (fun c46 => ?_)
                · skip
                  have c46 := (nI_leI (a := 4) (b := k) (by omega) (by omega)).mp c46
                  refine lv_lload hx hb dY1_four_91 (lv_at hl 5 rfl) ?_
                  have hP9 := hP.sub (ws' := [(o, .inr (1, [.int (nI 0), .int (nI w), .int (nI h), .int (nI kw), .int (nI kh), .ref b1, .ref b2, .ref b3])), (b1, .inl (cC, 4096, .inl f)), (b2, .inl (cD, 4096, .inl g)), (b3, .inl (cE, 4096, .inl md))]) [0, 1, 2, 3] rfl
                  have hD9 := hD.sub (ws' := [(o, .inr (1, [.int (nI 0), .int (nI w), .int (nI h), .int (nI kw), .int (nI kh), .ref b1, .ref b2, .ref b3])), (b1, .inl (cC, 4096, .inl f)), (b2, .inl (cD, 4096, .inl g)), (b3, .inl (cE, 4096, .inl md))]) [0, 1, 2, 3] (by decide) rfl
                  exact W.lret hx hb hr (fun t ht hW => ⟨⟨_, (), rfl, (by have e : k = 4 := (by omega); rw [ebx, ebz, ev, et, cf_fou_n hw hh hx_ hz_ hv0 ht0, ← cf_fst_e, hI, e, Nat.add_assoc]), by rw [ht]; exact hP9, va_K.moved hW.alike hK, hD9⟩, hS.F ht⟩) hS.2.2 dY1_four_93
                · skip
                  have c46 := mt (nI_leI (a := 4) (b := k) (by omega) (by omega)).mpr c46
                  refine lv_lload hx hb dY1_four_49 (lv_at hl 5 rfl) ?_
                  refine lv_bipush (v := nI 16) hx hb dY1_four_51 (by decide +kernel) ?_
                  refine lv_lshl hx hb dY1_four_53 rfl ?_
                  refine lv_aload_n hx hb dY1_four_54 rfl (lv_at hl 0 rfl) ?_
                  refine va_get (D := (dC, dI)) (ci := 1) (v := .ref b1) (C := RY1) (T := TY1) (N := 8) hx hb hts (by decide +kernel) hown hK hP 0 rfl rfl 5 (by decide) (hts (.fieldLink RY1 7 "CoefTurnsModel" "plane" "[I") (by decide +kernel)) (fun _ h9 => h9) rfl dY1_four_55 ?_
                  refine lv_iload_n hx hb dY1_four_58 rfl (lv_at hl 1 rfl) ?_
                  refine cf_top ebx ?_
                  refine lv_iload_n hx hb dY1_four_59 rfl (lv_at hl 2 rfl) ?_
                  refine cf_top ebz ?_
                  refine vp_callSi (W.runS (As := [.int (nI x), .int (nI z)]) (rest := [.ref b1, .long (acc <<< ((nI 16).toInt64 &&& 63))]) ⟨hx, hb, hml, hown, hts⟩ (kY1_block l x z) (va_cwS 2 hts gY1_four_Y1_block rfl rfl rfl (by decide +kernel) ⟨Nat.le_of_ble_eq_true rfl, Nat.le_of_ble_eq_true rfl⟩) ⟨fun a U g mk q => q, fun U hU hW => ⟨rfl, trivial⟩⟩ rfl rfl hl.1 rfl (lv_room (Nat.le_of_ble_eq_true rfl)) dY1_four_60 ⟨Nat.le_of_ble_eq_true rfl, Nat.le_of_ble_eq_true rfl⟩) (fun r60 w60 => ?_)
                  subst w60
                  refine lv_bipush (v := nI 8) hx hb dY1_four_63 (by decide +kernel) ?_
                  refine lv_iload_n hx hb dY1_four_65 rfl (lv_at hl 3 rfl) ?_
                  refine cf_top ev ?_
                  refine lv_imul hx hb dY1_four_66 ?_
                  refine cf_top (pk_mul _ _) ?_
                  refine lv_iadd hx hb dY1_four_67 ?_
                  refine cf_top (nI_add _ _) ?_
                  refine lv_iconst (v := nI 4) hx hb dY1_four_68 (by decide +kernel) ?_
                  refine lv_iload hx hb dY1_four_69 (lv_at hl 4 rfl) ?_
                  refine cf_top et ?_
                  refine lv_imul hx hb dY1_four_71 ?_
                  refine cf_top (pk_mul _ _) ?_
                  refine lv_iadd hx hb dY1_four_72 ?_
                  refine cf_top (nI_add _ _) ?_
                  refine lv_iload hx hb dY1_four_73 (lv_at hl 6 rfl) ?_
                  refine lv_iadd hx hb dY1_four_75 ?_
                  refine cf_top (nI_add _ _) ?_
                  refine cf_iald (D := (dC, dI)) hx hb hK hP 1 0 rfl rfl (k := 64 * (8 * z + x) + 8 * v0 + 4 * t0 + k) (by omega) (by decide) dY1_four_76 ?_
                  refine lv_i2l hx hb dY1_four_77 rfl ?_
                  refine lv_ldc2 (v := 65535) hx hb hown (hts (.constantLong RY1 72 65535) (by decide +kernel)) dY1_four_78 ?_
                  refine lv_land hx hb dY1_four_81 ?_
                  refine lv_lor hx hb dY1_four_82 ?_
                  refine lv_lstore (lv' := [(5, .long ((acc <<< ((nI 16).toInt64 &&& 63)) ||| (((f (64 * (8 * z + x) + 8 * v0 + 4 * t0 + k)).toInt64) &&& 65535))), (0, .ref o), (1, .int bx), (2, .int bz), (3, .int v), (4, .int t), (7, .int (nI k))]) hx hb dY1_four_83 hl (by decide) rfl (fun ls hl => ?_)
                  refine lv_iinc (v := nI (k + 1)) (lv' := [(7, .int (nI (k + 1))), (5, .long ((acc <<< ((nI 16).toInt64 &&& 63)) ||| (((f (64 * (8 * z + x) + 8 * v0 + 4 * t0 + k)).toInt64) &&& 65535))), (0, .ref o), (1, .int bx), (2, .int bz), (3, .int v), (4, .int t)]) hx hb dY1_four_85 hl (k := 6) rfl (by rw [← nI_add]; rfl) (by decide) rfl (fun ls hl => ?_)
                  refine lv_goto (tgt := 43) hx hb dY1_four_88 (by decide) ?_
                  exact ih43 (k + 1) ((acc <<< ((nI 16).toInt64 &&& 63)) ||| (((f (64 * (8 * z + x) + 8 * v0 + 4 * t0 + k)).toInt64) &&& 65535)) (by omega) (by omega) (by rw [cf_fo_1, ← hI]; unfold cf_fst; rw [cf_m16]) H locs hP hD hS ls (lv_sub hl [2, 3, 4, 5, 6, 1, 0] rfl)
            exact lp43 (4 + 1) 0 0 (by omega) (by omega) rfl H locs hP hD hS ls (lv_sub hl [2, 3, 4, 5, 6, 1, 0] rfl)
          · skip
            refine lv_lconst (v := 0) hx hb dY1_four_35 (by decide +kernel) ?_
            have hP9 := hP.sub (ws' := [(o, .inr (1, [.int (nI 0), .int (nI w), .int (nI h), .int (nI kw), .int (nI kh), .ref b1, .ref b2, .ref b3])), (b1, .inl (cC, 4096, .inl f)), (b2, .inl (cD, 4096, .inl g)), (b3, .inl (cE, 4096, .inl md))]) [0, 1, 2, 3] rfl
            have hD9 := hD.sub (ws' := [(o, .inr (1, [.int (nI 0), .int (nI w), .int (nI h), .int (nI kw), .int (nI kh), .ref b1, .ref b2, .ref b3])), (b1, .inl (cC, 4096, .inl f)), (b2, .inl (cD, 4096, .inl g)), (b3, .inl (cE, 4096, .inl md))]) [0, 1, 2, 3] (by decide) rfl
            exact W.lret hx hb hr (fun t ht hW => ⟨⟨_, (), rfl, (by unfold cf_fou; first | rw [if_pos c11] | rw [if_neg c11, if_pos c15] | rw [if_neg c11, if_neg c15, if_pos ((cf_gt7 v).mp c21)] | rw [if_neg c11, if_neg c15, if_neg (fun g => c21 ((cf_gt7 v).mpr g)), if_pos c26] | rw [if_neg c11, if_neg c15, if_neg (fun g => c21 ((cf_gt7 v).mpr g)), if_neg c26, if_pos (cf_nle c32)]), by rw [ht]; exact hP9, va_K.moved hW.alike hK, hD9⟩, hS.F ht⟩) hS.2.2 dY1_four_36
set_option maxHeartbeats 4000000 in
set_option maxRecDepth 100000 in
/-- Y1_sum -/
theorem kY1_sum_a (l : Launch) (dC : Nat → ClassId) (dI : Nat → Nat → Nat) (sz : Nat) (o b1 b2 b3 : Nat) (cC cD cE : ClassId) (f g md : Nat → Int32) (th : Int32) (w h kw kh : Nat) (j : Nat) (hw : w ≤ 8) (hh : h ≤ 8) (hj : j < 64) : Met l yY1_sum wsY1_sum ({ frames := 1, cells := 0, slots := 0, locals := 21 }) (va_Pc [.ref o, .int (nI j)] (fun U => U.heap.size = sz ∧ va_P (dC, dI) vwCm [(o, .inr (1, [.int th, .int (nI w), .int (nI h), .int (nI kw), .int (nI kh), .ref b1, .ref b2, .ref b3])), (b1, .inl (cC, 4096, .inl f)), (b2, .inl (cD, 4096, .inl g)), (b3, .inl (cE, 4096, .inl md))] U.heap ∧ va_K (dC, dI) vwCm [(cC, .int), (cD, .int), (cE, .int)] U ∧ va_D (fun _ => True) [(o, .inr (1, [.int th, .int (nI w), .int (nI h), .int (nI kw), .int (nI kh), .ref b1, .ref b2, .ref b3])), (b1, .inl (cC, 4096, .inl f)), (b2, .inl (cD, 4096, .inl g)), (b3, .inl (cE, 4096, .inl md))])) (va_Ql (fun (r : Int64) (_ : Unit) => r = cf_su w h (cf_V f) j) (fun (u : Unit) (t : State) => va_P (dC, dI) vwCm [(o, .inr (1, [.int (nI 0), .int (nI w), .int (nI h), .int (nI kw), .int (nI kh), .ref b1, .ref b2, .ref b3])), (b1, .inl (cC, 4096, .inl f)), (b2, .inl (cD, 4096, .inl g)), (b3, .inl (cE, 4096, .inl md))] t.heap ∧ va_K (dC, dI) vwCm [(cC, .int), (cD, .int), (cE, .int)] t ∧ va_D (va_A [(o, .inr (1, [.int th, .int (nI w), .int (nI h), .int (nI kw), .int (nI kh), .ref b1, .ref b2, .ref b3])), (b1, .inl (cC, 4096, .inl f)), (b2, .inl (cD, 4096, .inl g)), (b3, .inl (cE, 4096, .inl md))] sz) [(o, .inr (1, [.int (nI 0), .int (nI w), .int (nI h), .int (nI kw), .int (nI kh), .ref b1, .ref b2, .ref b3])), (b1, .inl (cC, 4096, .inl f)), (b2, .inl (cD, 4096, .inl g)), (b3, .inl (cE, 4096, .inl md))]) (va_A [(o, .inr (1, [.int th, .int (nI w), .int (nI h), .int (nI kw), .int (nI kh), .ref b1, .ref b2, .ref b3])), (b1, .inl (cC, 4096, .inl f)), (b2, .inl (cD, 4096, .inl g)), (b3, .inl (cE, 4096, .inl md))] sz)) 0 0 (va_A [(o, .inr (1, [.int th, .int (nI w), .int (nI h), .int (nI kw), .int (nI kh), .ref b1, .ref b2, .ref b3])), (b1, .inl (cC, 4096, .inl f)), (b2, .inl (cD, 4096, .inl g)), (b3, .inl (cE, 4096, .inl md))] sz) := by
  refine Met.ofW (cc := cY1_sum) (maxL := 6) (ret := (some .long)) (by decide) rfl ?_
  intro p e s m args below meth c s₁ B hml hv
  obtain ⟨rfl, hsz, hP, hK, hD0⟩ := hv
  have hx := B.exec
  have hb := B.bytes
  have hr := B.returns
  have hts := atoms_spec (ws := wsY1_sum) B.pre
  have hown : s.vm.findClass RY1 = some m.cls := findClass_of_methodNamed B.named
  have hlocks := B.notSynchronized
  subst hsz
  have hD := hD0.self (sz := s.heap.size)
  generalize hAe : va_A [(o, .inr (1, [.int th, .int (nI w), .int (nI h), .int (nI kw), .int (nI kh), .ref b1, .ref b2, .ref b3])), (b1, .inl (cC, 4096, .inl f)), (b2, .inl (cD, 4096, .inl g)), (b3, .inl (cE, 4096, .inl md))] s.heap.size = A at hD ⊢
  have hA : ∀ q : Nat, s.heap.size ≤ q → A q := fun q h => by rw [← hAe]; exact Or.inr h
  have hS : va_S A s.heap s.heap [] := va_S.rf
  have hP : va_P (dC, dI) vwCm [(o, .inr (1, [.int th, .int (nI w), .int (nI h), .int (nI kw), .int (nI kh), .ref b1, .ref b2, .ref b3])), (b1, .inl (cC, 4096, .inl f)), (b2, .inl (cD, 4096, .inl g)), (b3, .inl (cE, 4096, .inl md))] s.heap := hP
  have hl := lv_entry ([.ref o, .int (nI j)]) (n := 6) (Nat.le_of_ble_eq_true rfl)
  rw [lg_entry_eq]
  generalize (lg_sl ([.ref o, .int (nI j)]) ++ List.replicate (6 - (lg_sl ([.ref o, .int (nI j)])).length) Slot.unset).toArray = ls at hl ⊢
  have hl : lv_has ls 6 [(0, .ref o), (1, .int (nI j))] := hl
  refine lv_aload_n hx hb dY1_sum_0 rfl (lv_at hl 0 rfl) ?_
  refine lv_iload_n hx hb dY1_sum_1 rfl (lv_at hl 1 rfl) ?_
  refine vp_callSi (W.runS (As := [.int (nI j)]) (rest := [.ref o]) ⟨hx, hb, hml, hown, hts⟩ (kY1_isPlace l (nI j)) (va_cwS 1 hts gY1_sum_Y1_isPlace rfl rfl rfl (by decide +kernel) ⟨Nat.le_of_ble_eq_true rfl, Nat.le_of_ble_eq_true rfl⟩) ⟨fun a U g mk q => q, fun U hU hW => ⟨rfl, trivial⟩⟩ rfl rfl hl.1 rfl (lv_room (Nat.le_of_ble_eq_true rfl)) dY1_sum_2 ⟨Nat.le_of_ble_eq_true rfl, Nat.le_of_ble_eq_true rfl⟩) (fun r2 w2 => ?_)
  subst w2
  refine lv_if_eq (tgt := 12) hx hb dY1_sum_5 (by decide) (fun c5 => ?_) (fun c5 => ?_)
  · skip
    exact absurd c5 (by rw [cf_ip_n hj]; exact cf_11)
  · skip
    refine lv_iconst (v := nI 0) hx hb dY1_sum_8 (by decide +kernel) ?_
    refine lv_goto (tgt := 13) hx hb dY1_sum_9 (by decide) ?_
    refine va_put (D := (dC, dI)) (ci := 1) (v := .int (nI 0)) (ty := .int) (C := RY1) (T := TY1) (N := 8) hx hb hts (by decide +kernel) tyY1 tyY1_ok nmY1 hown hK hP hD hS 0 rfl rfl 0 (by decide) (hts (.fieldLink RY1 36 "CoefTurnsModel" "thrown" "I") (by decide +kernel)) (fun _ h9 => h9) rfl (by decide +kernel) rfl rfl (Nat.le_of_ble_eq_true rfl) dY1_sum_13 (fun H locs hP hD hS => ?_)
    have hP : va_P (dC, dI) vwCm [(o, .inr (1, [.int (nI 0), .int (nI w), .int (nI h), .int (nI kw), .int (nI kh), .ref b1, .ref b2, .ref b3])), (b1, .inl (cC, 4096, .inl f)), (b2, .inl (cD, 4096, .inl g)), (b3, .inl (cE, 4096, .inl md))] H := hP
    have hD : va_D A [(o, .inr (1, [.int (nI 0), .int (nI w), .int (nI h), .int (nI kw), .int (nI kh), .ref b1, .ref b2, .ref b3])), (b1, .inl (cC, 4096, .inl f)), (b2, .inl (cD, 4096, .inl g)), (b3, .inl (cE, 4096, .inl md))] := hD
    refine lv_lconst (v := 0) hx hb dY1_sum_16 (by decide +kernel) ?_
    refine lv_lstore_n (lv' := [(2, .long 0), (0, .ref o), (1, .int (nI j))]) hx hb dY1_sum_17 rfl hl (by decide) rfl (fun ls hl => ?_)
    refine lv_iconst (v := nI 0) hx hb dY1_sum_18 (by decide +kernel) ?_
    refine lv_istore (lv' := [(4, .int (nI 0)), (2, .long 0), (0, .ref o), (1, .int (nI j))]) hx hb dY1_sum_19 hl (by decide) rfl (fun ls hl => ?_)
    have lp21 : ∀ (n21 : Nat) (y0 : Nat) (s0 : Int64), y0 ≤ h → h < y0 + n21 → s0 = cf_fo (fun (a : Int64) y => cf_fo (fun (a : Int64) x => a + (f (64 * (8 * y + x) + j)).toInt64 * (nI (1 + x + 8 * y)).toInt64) w a) y0 0 → ∀ (H : Heap) (locs : List Loc), va_P (dC, dI) vwCm [(o, .inr (1, [.int (nI 0), .int (nI w), .int (nI h), .int (nI kw), .int (nI kh), .ref b1, .ref b2, .ref b3])), (b1, .inl (cC, 4096, .inl f)), (b2, .inl (cD, 4096, .inl g)), (b3, .inl (cE, 4096, .inl md))] H → va_D A [(o, .inr (1, [.int (nI 0), .int (nI w), .int (nI h), .int (nI kw), .int (nI kh), .ref b1, .ref b2, .ref b3])), (b1, .inl (cC, 4096, .inl f)), (b2, .inl (cD, 4096, .inl g)), (b3, .inl (cE, 4096, .inl md))] → va_S A s.heap H locs → ∀ (ls : Array Slot), lv_has ls 6 [(0, .ref o), (1, .int (nI j)), (2, .long s0), (4, .int (nI y0))] → W p l e (headSpec wsY1_sum ({ frames := 1, cells := 0, slots := 0, locals := 21 })).room s m ([.ref o, .int (nI j)] : List Value).toArray below meth c H locs 0 0 (MQ below (va_Ql (fun (r : Int64) (_ : Unit) => r = cf_su w h (cf_V f) j) (fun (u : Unit) (t : State) => va_P (dC, dI) vwCm [(o, .inr (1, [.int (nI 0), .int (nI w), .int (nI h), .int (nI kw), .int (nI kh), .ref b1, .ref b2, .ref b3])), (b1, .inl (cC, 4096, .inl f)), (b2, .inl (cD, 4096, .inl g)), (b3, .inl (cE, 4096, .inl md))] t.heap ∧ va_K (dC, dI) vwCm [(cC, .int), (cD, .int), (cE, .int)] t ∧ va_D A [(o, .inr (1, [.int (nI 0), .int (nI w), .int (nI h), .int (nI kw), .int (nI kh), .ref b1, .ref b2, .ref b3])), (b1, .inl (cC, 4096, .inl f)), (b2, .inl (cD, 4096, .inl g)), (b3, .inl (cE, 4096, .inl md))]) A) ([.ref o, .int (nI j)] : List Value).toArray s 0 0 A) (F0 m 21 ls []) := by
      intro n21
      induction n21 with
      | zero => intro y0 s0 h1 h2; exact absurd h2 (by omega)
      | succ n21 ih21 =>
        intro y0 s0 hk21 hn21 hI H locs hP hD hS ls hl
        refine lv_iload hx hb dY1_sum_21 (lv_at hl 3 rfl) ?_
        refine lv_aload_n hx hb dY1_sum_23 rfl (lv_at hl 0 rfl) ?_
        refine va_get (D := (dC, dI)) (ci := 1) (v := .int (nI h)) (C := RY1) (T := TY1) (N := 8) hx hb hts (by decide +kernel) hown hK hP 0 rfl rfl 2 (by decide) (hts (.fieldLink RY1 27 "CoefTurnsModel" "h" "I") (by decide +kernel)) (fun _ h9 => h9) rfl dY1_sum_24 ?_
        refine lv_icmp_ge (tgt := 91) hx hb dY1_sum_27 (by decide) (fun c27 => ?_) (fun c27 => ?_)
        · skip
          have c27 := (nI_leI (a := h) (b := y0) (by omega) (by omega)).mp c27
          refine lv_lload_n hx hb dY1_sum_91 rfl (lv_at hl 2 rfl) ?_
          have hP9 := hP.sub (ws' := [(o, .inr (1, [.int (nI 0), .int (nI w), .int (nI h), .int (nI kw), .int (nI kh), .ref b1, .ref b2, .ref b3])), (b1, .inl (cC, 4096, .inl f)), (b2, .inl (cD, 4096, .inl g)), (b3, .inl (cE, 4096, .inl md))]) [0, 1, 2, 3] rfl
          have hD9 := hD.sub (ws' := [(o, .inr (1, [.int (nI 0), .int (nI w), .int (nI h), .int (nI kw), .int (nI kh), .ref b1, .ref b2, .ref b3])), (b1, .inl (cC, 4096, .inl f)), (b2, .inl (cD, 4096, .inl g)), (b3, .inl (cE, 4096, .inl md))]) [0, 1, 2, 3] (by decide) rfl
          exact W.lret hx hb hr (fun t ht hW => ⟨⟨_, (), rfl, (by have e : y0 = h := (by omega); rw [hI, e]; exact cf_su_c w h f j), by rw [ht]; exact hP9, va_K.moved hW.alike hK, hD9⟩, hS.F ht⟩) hS.2.2 dY1_sum_92
        · skip
          have c27 := mt (nI_leI (a := h) (b := y0) (by omega) (by omega)).mpr c27
          refine lv_aload_n hx hb dY1_sum_30 rfl (lv_at hl 0 rfl) ?_
          refine va_get (D := (dC, dI)) (ci := 1) (v := .int (nI 0)) (C := RY1) (T := TY1) (N := 8) hx hb hts (by decide +kernel) hown hK hP 0 rfl rfl 0 (by decide) (hts (.fieldLink RY1 36 "CoefTurnsModel" "thrown" "I") (by decide +kernel)) (fun _ h9 => h9) rfl dY1_sum_31 ?_
          refine lv_if_ne (tgt := 91) hx hb dY1_sum_34 (by decide) (fun c34 => ?_) (fun c34 => ?_)
          · skip
            exact absurd c34 (by decide +kernel)
          · skip
            have c34 := (nI_eq (a := 0) (b := 0) (by omega) (by omega)).mp c34
            refine lv_iconst (v := nI 0) hx hb dY1_sum_37 (by decide +kernel) ?_
            refine lv_istore (lv' := [(5, .int (nI 0)), (0, .ref o), (1, .int (nI j)), (2, .long s0), (4, .int (nI y0))]) hx hb dY1_sum_38 hl (by decide) rfl (fun ls hl => ?_)
            have lp40 : ∀ (n40 : Nat) (x0 : Nat) (s1 : Int64), x0 ≤ w → w < x0 + n40 → s1 = cf_fo (fun (a : Int64) x => a + (f (64 * (8 * y0 + x) + j)).toInt64 * (nI (1 + x + 8 * y0)).toInt64) x0 s0 → ∀ (H : Heap) (locs : List Loc), va_P (dC, dI) vwCm [(o, .inr (1, [.int (nI 0), .int (nI w), .int (nI h), .int (nI kw), .int (nI kh), .ref b1, .ref b2, .ref b3])), (b1, .inl (cC, 4096, .inl f)), (b2, .inl (cD, 4096, .inl g)), (b3, .inl (cE, 4096, .inl md))] H → va_D A [(o, .inr (1, [.int (nI 0), .int (nI w), .int (nI h), .int (nI kw), .int (nI kh), .ref b1, .ref b2, .ref b3])), (b1, .inl (cC, 4096, .inl f)), (b2, .inl (cD, 4096, .inl g)), (b3, .inl (cE, 4096, .inl md))] → va_S A s.heap H locs → ∀ (ls : Array Slot), lv_has ls 6 [(0, .ref o), (1, .int (nI j)), (2, .long s1), (4, .int (nI y0)), (5, .int (nI x0))] → W p l e (headSpec wsY1_sum ({ frames := 1, cells := 0, slots := 0, locals := 21 })).room s m ([.ref o, .int (nI j)] : List Value).toArray below meth c H locs 0 0 (MQ below (va_Ql (fun (r : Int64) (_ : Unit) => r = cf_su w h (cf_V f) j) (fun (u : Unit) (t : State) => va_P (dC, dI) vwCm [(o, .inr (1, [.int (nI 0), .int (nI w), .int (nI h), .int (nI kw), .int (nI kh), .ref b1, .ref b2, .ref b3])), (b1, .inl (cC, 4096, .inl f)), (b2, .inl (cD, 4096, .inl g)), (b3, .inl (cE, 4096, .inl md))] t.heap ∧ va_K (dC, dI) vwCm [(cC, .int), (cD, .int), (cE, .int)] t ∧ va_D A [(o, .inr (1, [.int (nI 0), .int (nI w), .int (nI h), .int (nI kw), .int (nI kh), .ref b1, .ref b2, .ref b3])), (b1, .inl (cC, 4096, .inl f)), (b2, .inl (cD, 4096, .inl g)), (b3, .inl (cE, 4096, .inl md))]) A) ([.ref o, .int (nI j)] : List Value).toArray s 0 0 A) (F0 m 40 ls []) := by
              intro n40
              induction n40 with
              | zero => intro x0 s1 h1 h2; exact absurd h2 (by omega)
              | succ n40 ih40 =>
                intro x0 s1 hk40 hn40 hJ H locs hP hD hS ls hl
                refine lv_iload hx hb dY1_sum_40 (lv_at hl 4 rfl) ?_
                refine lv_aload_n hx hb dY1_sum_42 rfl (lv_at hl 0 rfl) ?_
                refine va_get (D := (dC, dI)) (ci := 1) (v := .int (nI w)) (C := RY1) (T := TY1) (N := 8) hx hb hts (by decide +kernel) hown hK hP 0 rfl rfl 1 (by decide) (hts (.fieldLink RY1 23 "CoefTurnsModel" "w" "I") (by decide +kernel)) (fun _ h9 => h9) rfl dY1_sum_43 ?_
                refine lv_icmp_ge (tgt := 85) hx hb dY1_sum_46 (by decide) (fun c46 => ?_) (fun c46 => ?_)
                · skip
                  have c46 := (nI_leI (a := w) (b := x0) (by omega) (by omega)).mp c46
                  refine lv_iinc (v := nI (y0 + 1)) (lv' := [(4, .int (nI (y0 + 1))), (0, .ref o), (1, .int (nI j)), (2, .long s1), (5, .int (nI x0))]) hx hb dY1_sum_85 hl (k := 3) rfl (by rw [← nI_add]; rfl) (by decide) rfl (fun ls hl => ?_)
                  refine lv_goto (tgt := 21) hx hb dY1_sum_88 (by decide) ?_
                  exact ih21 (y0 + 1) s1 (by omega) (by omega) (by have e : x0 = w := (by omega); rw [hJ, e, hI]; rfl) H locs hP hD hS ls (lv_sub hl [1, 2, 3, 0] rfl)
                · skip
                  have c46 := mt (nI_leI (a := w) (b := x0) (by omega) (by omega)).mpr c46
                  refine lv_lload_n hx hb dY1_sum_49 rfl (lv_at hl 2 rfl) ?_
                  refine lv_aload_n hx hb dY1_sum_50 rfl (lv_at hl 0 rfl) ?_
                  refine va_get (D := (dC, dI)) (ci := 1) (v := .ref b1) (C := RY1) (T := TY1) (N := 8) hx hb hts (by decide +kernel) hown hK hP 0 rfl rfl 5 (by decide) (hts (.fieldLink RY1 7 "CoefTurnsModel" "plane" "[I") (by decide +kernel)) (fun _ h9 => h9) rfl dY1_sum_51 ?_
                  refine lv_iload hx hb dY1_sum_54 (lv_at hl 4 rfl) ?_
                  refine lv_iload hx hb dY1_sum_56 (lv_at hl 3 rfl) ?_
                  refine vp_callSi (W.runS (As := [.int (nI x0), .int (nI y0)]) (rest := [.ref b1, .long s1]) ⟨hx, hb, hml, hown, hts⟩ (kY1_block l x0 y0) (va_cwS 2 hts gY1_sum_Y1_block rfl rfl rfl (by decide +kernel) ⟨Nat.le_of_ble_eq_true rfl, Nat.le_of_ble_eq_true rfl⟩) ⟨fun a U g mk q => q, fun U hU hW => ⟨rfl, trivial⟩⟩ rfl rfl hl.1 rfl (lv_room (Nat.le_of_ble_eq_true rfl)) dY1_sum_58 ⟨Nat.le_of_ble_eq_true rfl, Nat.le_of_ble_eq_true rfl⟩) (fun r58 w58 => ?_)
                  subst w58
                  refine lv_iload_n hx hb dY1_sum_61 rfl (lv_at hl 1 rfl) ?_
                  refine lv_iadd hx hb dY1_sum_62 ?_
                  refine cf_top (nI_add _ _) ?_
                  refine cf_iald (D := (dC, dI)) hx hb hK hP 1 0 rfl rfl (k := 64 * (8 * y0 + x0) + j) (by omega) (by decide) dY1_sum_63 ?_
                  refine lv_i2l hx hb dY1_sum_64 rfl ?_
                  refine lv_iconst (v := nI 1) hx hb dY1_sum_65 (by decide +kernel) ?_
                  refine lv_iload hx hb dY1_sum_66 (lv_at hl 4 rfl) ?_
                  refine lv_iadd hx hb dY1_sum_68 ?_
                  refine cf_top (nI_add _ _) ?_
                  refine lv_bipush (v := nI 8) hx hb dY1_sum_69 (by decide +kernel) ?_
                  refine lv_iload hx hb dY1_sum_71 (lv_at hl 3 rfl) ?_
                  refine lv_imul hx hb dY1_sum_73 ?_
                  refine cf_top (pk_mul _ _) ?_
                  refine lv_iadd hx hb dY1_sum_74 ?_
                  refine cf_top (nI_add _ _) ?_
                  refine lv_i2l hx hb dY1_sum_75 rfl ?_
                  refine lv_lmul hx hb dY1_sum_76 ?_
                  refine lv_ladd hx hb dY1_sum_77 ?_
                  refine lv_lstore_n (lv' := [(2, .long (s1 + (((f (64 * (8 * y0 + x0) + j)).toInt64) * ((nI (1 + x0 + 8 * y0)).toInt64)))), (0, .ref o), (1, .int (nI j)), (4, .int (nI y0)), (5, .int (nI x0))]) hx hb dY1_sum_78 rfl hl (by decide) rfl (fun ls hl => ?_)
                  refine lv_iinc (v := nI (x0 + 1)) (lv' := [(5, .int (nI (x0 + 1))), (2, .long (s1 + (((f (64 * (8 * y0 + x0) + j)).toInt64) * ((nI (1 + x0 + 8 * y0)).toInt64)))), (0, .ref o), (1, .int (nI j)), (4, .int (nI y0))]) hx hb dY1_sum_79 hl (k := 4) rfl (by rw [← nI_add]; rfl) (by decide) rfl (fun ls hl => ?_)
                  refine lv_goto (tgt := 40) hx hb dY1_sum_82 (by decide) ?_
                  exact ih40 (x0 + 1) (s1 + (((f (64 * (8 * y0 + x0) + j)).toInt64) * ((nI (1 + x0 + 8 * y0)).toInt64))) (by omega) (by omega) (by rw [cf_fo_1, ← hJ]) H locs hP hD hS ls (lv_sub hl [2, 3, 1, 4, 0] rfl)
            exact lp40 (w + 1) 0 s0 (by omega) (by omega) rfl H locs hP hD hS ls (lv_sub hl [1, 2, 3, 4, 0] rfl)
    exact lp21 (h + 1) 0 0 (by omega) (by omega) rfl H locs hP hD hS ls (lv_sub hl [2, 3, 1, 0] rfl)
set_option maxHeartbeats 4000000 in
set_option maxRecDepth 100000 in
/-- Y1_sum -/
theorem kY1_sum_b (l : Launch) (dC : Nat → ClassId) (dI : Nat → Nat → Nat) (sz : Nat) (o b1 b2 b3 : Nat) (cC cD cE : ClassId) (f g md : Nat → Int32) (th : Int32) (w h kw kh : Nat) (q : Int32) (hw : w ≤ 8) (hh : h ≤ 8) (hq : cf_ip q = 0) : Met l yY1_sum wsY1_sum ({ frames := 1, cells := 0, slots := 0, locals := 20 }) (va_Pc [.ref o, .int q] (fun U => U.heap.size = sz ∧ va_P (dC, dI) vwCm [(o, .inr (1, [.int th, .int (nI w), .int (nI h), .int (nI kw), .int (nI kh), .ref b1, .ref b2, .ref b3])), (b1, .inl (cC, 4096, .inl f)), (b2, .inl (cD, 4096, .inl g)), (b3, .inl (cE, 4096, .inl md))] U.heap ∧ va_K (dC, dI) vwCm [(cC, .int), (cD, .int), (cE, .int)] U ∧ va_D (fun _ => True) [(o, .inr (1, [.int th, .int (nI w), .int (nI h), .int (nI kw), .int (nI kh), .ref b1, .ref b2, .ref b3])), (b1, .inl (cC, 4096, .inl f)), (b2, .inl (cD, 4096, .inl g)), (b3, .inl (cE, 4096, .inl md))])) (va_Ql (fun (r : Int64) (_ : Unit) => True) (fun (u : Unit) (t : State) => va_P (dC, dI) vwCm [(o, .inr (1, [.int (nI 1), .int (nI w), .int (nI h), .int (nI kw), .int (nI kh), .ref b1, .ref b2, .ref b3])), (b1, .inl (cC, 4096, .inl f)), (b2, .inl (cD, 4096, .inl g)), (b3, .inl (cE, 4096, .inl md))] t.heap ∧ va_K (dC, dI) vwCm [(cC, .int), (cD, .int), (cE, .int)] t ∧ va_D (va_A [(o, .inr (1, [.int th, .int (nI w), .int (nI h), .int (nI kw), .int (nI kh), .ref b1, .ref b2, .ref b3])), (b1, .inl (cC, 4096, .inl f)), (b2, .inl (cD, 4096, .inl g)), (b3, .inl (cE, 4096, .inl md))] sz) [(o, .inr (1, [.int (nI 1), .int (nI w), .int (nI h), .int (nI kw), .int (nI kh), .ref b1, .ref b2, .ref b3])), (b1, .inl (cC, 4096, .inl f)), (b2, .inl (cD, 4096, .inl g)), (b3, .inl (cE, 4096, .inl md))]) (va_A [(o, .inr (1, [.int th, .int (nI w), .int (nI h), .int (nI kw), .int (nI kh), .ref b1, .ref b2, .ref b3])), (b1, .inl (cC, 4096, .inl f)), (b2, .inl (cD, 4096, .inl g)), (b3, .inl (cE, 4096, .inl md))] sz)) 0 0 (va_A [(o, .inr (1, [.int th, .int (nI w), .int (nI h), .int (nI kw), .int (nI kh), .ref b1, .ref b2, .ref b3])), (b1, .inl (cC, 4096, .inl f)), (b2, .inl (cD, 4096, .inl g)), (b3, .inl (cE, 4096, .inl md))] sz) := by
  refine Met.ofW (cc := cY1_sum) (maxL := 6) (ret := (some .long)) (by decide) rfl ?_
  intro p e s m args below meth c s₁ B hml hv
  obtain ⟨rfl, hsz, hP, hK, hD0⟩ := hv
  have hx := B.exec
  have hb := B.bytes
  have hr := B.returns
  have hts := atoms_spec (ws := wsY1_sum) B.pre
  have hown : s.vm.findClass RY1 = some m.cls := findClass_of_methodNamed B.named
  have hlocks := B.notSynchronized
  subst hsz
  have hD := hD0.self (sz := s.heap.size)
  generalize hAe : va_A [(o, .inr (1, [.int th, .int (nI w), .int (nI h), .int (nI kw), .int (nI kh), .ref b1, .ref b2, .ref b3])), (b1, .inl (cC, 4096, .inl f)), (b2, .inl (cD, 4096, .inl g)), (b3, .inl (cE, 4096, .inl md))] s.heap.size = A at hD ⊢
  have hA : ∀ q : Nat, s.heap.size ≤ q → A q := fun q h => by rw [← hAe]; exact Or.inr h
  have hS : va_S A s.heap s.heap [] := va_S.rf
  have hP : va_P (dC, dI) vwCm [(o, .inr (1, [.int th, .int (nI w), .int (nI h), .int (nI kw), .int (nI kh), .ref b1, .ref b2, .ref b3])), (b1, .inl (cC, 4096, .inl f)), (b2, .inl (cD, 4096, .inl g)), (b3, .inl (cE, 4096, .inl md))] s.heap := hP
  have hl := lv_entry ([.ref o, .int q]) (n := 6) (Nat.le_of_ble_eq_true rfl)
  rw [lg_entry_eq]
  generalize (lg_sl ([.ref o, .int q]) ++ List.replicate (6 - (lg_sl ([.ref o, .int q])).length) Slot.unset).toArray = ls at hl ⊢
  have hl : lv_has ls 6 [(0, .ref o), (1, .int q)] := hl
  refine lv_aload_n hx hb dY1_sum_0 rfl (lv_at hl 0 rfl) ?_
  refine lv_iload_n hx hb dY1_sum_1 rfl (lv_at hl 1 rfl) ?_
  refine vp_callSi (W.runS (As := [.int q]) (rest := [.ref o]) ⟨hx, hb, hml, hown, hts⟩ (kY1_isPlace l q) (va_cwS 1 hts gY1_sum_Y1_isPlace rfl rfl rfl (by decide +kernel) ⟨Nat.le_of_ble_eq_true rfl, Nat.le_of_ble_eq_true rfl⟩) ⟨fun a U g mk q => q, fun U hU hW => ⟨rfl, trivial⟩⟩ rfl rfl hl.1 rfl (lv_room (Nat.le_of_ble_eq_true rfl)) dY1_sum_2 ⟨Nat.le_of_ble_eq_true rfl, Nat.le_of_ble_eq_true rfl⟩) (fun r2 w2 => ?_)
  subst w2
  refine lv_if_eq (tgt := 12) hx hb dY1_sum_5 (by decide) (fun c5 => ?_) (fun c5 => ?_)
  · skip
    refine lv_iconst (v := nI 1) hx hb dY1_sum_12 (by decide +kernel) ?_
    refine va_put (D := (dC, dI)) (ci := 1) (v := .int (nI 1)) (ty := .int) (C := RY1) (T := TY1) (N := 8) hx hb hts (by decide +kernel) tyY1 tyY1_ok nmY1 hown hK hP hD hS 0 rfl rfl 0 (by decide) (hts (.fieldLink RY1 36 "CoefTurnsModel" "thrown" "I") (by decide +kernel)) (fun _ h9 => h9) rfl (by decide +kernel) rfl rfl (Nat.le_of_ble_eq_true rfl) dY1_sum_13 (fun H locs hP hD hS => ?_)
    have hP : va_P (dC, dI) vwCm [(o, .inr (1, [.int (nI 1), .int (nI w), .int (nI h), .int (nI kw), .int (nI kh), .ref b1, .ref b2, .ref b3])), (b1, .inl (cC, 4096, .inl f)), (b2, .inl (cD, 4096, .inl g)), (b3, .inl (cE, 4096, .inl md))] H := hP
    have hD : va_D A [(o, .inr (1, [.int (nI 1), .int (nI w), .int (nI h), .int (nI kw), .int (nI kh), .ref b1, .ref b2, .ref b3])), (b1, .inl (cC, 4096, .inl f)), (b2, .inl (cD, 4096, .inl g)), (b3, .inl (cE, 4096, .inl md))] := hD
    refine lv_lconst (v := 0) hx hb dY1_sum_16 (by decide +kernel) ?_
    refine lv_lstore_n (lv' := [(2, .long 0), (0, .ref o), (1, .int q)]) hx hb dY1_sum_17 rfl hl (by decide) rfl (fun ls hl => ?_)
    refine lv_iconst (v := nI 0) hx hb dY1_sum_18 (by decide +kernel) ?_
    refine lv_istore (lv' := [(4, .int (nI 0)), (2, .long 0), (0, .ref o), (1, .int q)]) hx hb dY1_sum_19 hl (by decide) rfl (fun ls hl => ?_)
    refine lv_iload hx hb dY1_sum_21 (lv_at hl 0 rfl) ?_
    refine lv_aload_n hx hb dY1_sum_23 rfl (lv_at hl 2 rfl) ?_
    refine va_get (D := (dC, dI)) (ci := 1) (v := .int (nI h)) (C := RY1) (T := TY1) (N := 8) hx hb hts (by decide +kernel) hown hK hP 0 rfl rfl 2 (by decide) (hts (.fieldLink RY1 27 "CoefTurnsModel" "h" "I") (by decide +kernel)) (fun _ h9 => h9) rfl dY1_sum_24 ?_
    refine lv_icmp_ge (tgt := 91) hx hb dY1_sum_27 (by decide) (fun c27 => ?_) (fun c27 => ?_)
    · skip
      have c27 := (nI_leI (a := h) (b := 0) (by omega) (by omega)).mp c27
      refine lv_lload_n hx hb dY1_sum_91 rfl (lv_at hl 1 rfl) ?_
      have hP9 := hP.sub (ws' := [(o, .inr (1, [.int (nI 1), .int (nI w), .int (nI h), .int (nI kw), .int (nI kh), .ref b1, .ref b2, .ref b3])), (b1, .inl (cC, 4096, .inl f)), (b2, .inl (cD, 4096, .inl g)), (b3, .inl (cE, 4096, .inl md))]) [0, 1, 2, 3] rfl
      have hD9 := hD.sub (ws' := [(o, .inr (1, [.int (nI 1), .int (nI w), .int (nI h), .int (nI kw), .int (nI kh), .ref b1, .ref b2, .ref b3])), (b1, .inl (cC, 4096, .inl f)), (b2, .inl (cD, 4096, .inl g)), (b3, .inl (cE, 4096, .inl md))]) [0, 1, 2, 3] (by decide) rfl
      exact W.lret hx hb hr (fun t ht hW => ⟨⟨_, (), rfl, trivial, by rw [ht]; exact hP9, va_K.moved hW.alike hK, hD9⟩, hS.F ht⟩) hS.2.2 dY1_sum_92
    · skip
      have c27 := mt (nI_leI (a := h) (b := 0) (by omega) (by omega)).mpr c27
      refine lv_aload_n hx hb dY1_sum_30 rfl (lv_at hl 2 rfl) ?_
      refine va_get (D := (dC, dI)) (ci := 1) (v := .int (nI 1)) (C := RY1) (T := TY1) (N := 8) hx hb hts (by decide +kernel) hown hK hP 0 rfl rfl 0 (by decide) (hts (.fieldLink RY1 36 "CoefTurnsModel" "thrown" "I") (by decide +kernel)) (fun _ h9 => h9) rfl dY1_sum_31 ?_
      refine lv_if_ne (tgt := 91) hx hb dY1_sum_34 (by decide) (fun c34 => ?_) (fun c34 => ?_)
      · skip
        have c34 := mt (nI_eq (a := 1) (b := 0) (by omega) (by omega)).mpr c34
        refine lv_lload_n hx hb dY1_sum_91 rfl (lv_at hl 1 rfl) ?_
        have hP9 := hP.sub (ws' := [(o, .inr (1, [.int (nI 1), .int (nI w), .int (nI h), .int (nI kw), .int (nI kh), .ref b1, .ref b2, .ref b3])), (b1, .inl (cC, 4096, .inl f)), (b2, .inl (cD, 4096, .inl g)), (b3, .inl (cE, 4096, .inl md))]) [0, 1, 2, 3] rfl
        have hD9 := hD.sub (ws' := [(o, .inr (1, [.int (nI 1), .int (nI w), .int (nI h), .int (nI kw), .int (nI kh), .ref b1, .ref b2, .ref b3])), (b1, .inl (cC, 4096, .inl f)), (b2, .inl (cD, 4096, .inl g)), (b3, .inl (cE, 4096, .inl md))]) [0, 1, 2, 3] (by decide) rfl
        exact W.lret hx hb hr (fun t ht hW => ⟨⟨_, (), rfl, trivial, by rw [ht]; exact hP9, va_K.moved hW.alike hK, hD9⟩, hS.F ht⟩) hS.2.2 dY1_sum_92
      · skip
        exact absurd c34 (by decide +kernel)
  · skip
    exact absurd hq c5
