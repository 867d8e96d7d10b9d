set_option maxHeartbeats 4000000 in
set_option maxRecDepth 100000 in
/-- X0_put -/
theorem kX0_put (l : Launch) (dC : Nat → ClassId) (dI : Nat → Nat → Nat) (sz : Nat) (h0 a1 a2 : Nat) (cA cB : ClassId) (f g : Nat → Int32) (w h kw kh : Nat) (bx bz q v : Int32) (sa1 sa2 sa3 : Nat) (hw : w ≤ 8) (hh : h ≤ 8) (htr : l.stackTraces = false) : vx_Met l yX0_put wsX0_put ({ frames := 6, cells := 1, slots := 6, locals := 100 }) (va_Pc [.ref h0, .int bx, .int bz, .int q, .int v] (fun U => U.heap.size = sz ∧ va_P (dC, dI) vwCm [(h0, .inr (0, [.ref a1, .ref a2, .int (nI w), .int (nI h), .int (nI kw), .int (nI kh)])), (a1, .inl (cA, 4096, .inl f)), (a2, .inl (cB, 4096, .inl g))] U.heap ∧ va_K (dC, dI) vwCm [(cA, .int), (cB, .int)] U ∧ va_D (fun _ => True) [(h0, .inr (0, [.ref a1, .ref a2, .int (nI w), .int (nI h), .int (nI kw), .int (nI kh)])), (a1, .inl (cA, 4096, .inl f)), (a2, .inl (cB, 4096, .inl g))] ∧ cf_Xf sa1 sa2 sa3 U ∧ cf_Zf (va_A [(h0, .inr (0, [.ref a1, .ref a2, .int (nI w), .int (nI h), .int (nI kw), .int (nI kh)])), (a1, .inl (cA, 4096, .inl f)), (a2, .inl (cB, 4096, .inl g))] sz) U U.heap)) (va_Qv (fun u : Nat → Int32 => cf_pk w h bx bz q v = nI 0 ∧ cf_Ag w h (cf_V u) (cf_pu w h bx bz q v (cf_V f))) (fun (u : Nat → Int32) (t : State) => va_P (dC, dI) vwCm [(h0, .inr (0, [.ref a1, .ref a2, .int (nI w), .int (nI h), .int (nI kw), .int (nI kh)])), (a1, .inl (cA, 4096, .inl u)), (a2, .inl (cB, 4096, .inl g))] t.heap ∧ va_K (dC, dI) vwCm [(cA, .int), (cB, .int)] t ∧ va_D (va_A [(h0, .inr (0, [.ref a1, .ref a2, .int (nI w), .int (nI h), .int (nI kw), .int (nI kh)])), (a1, .inl (cA, 4096, .inl f)), (a2, .inl (cB, 4096, .inl g))] sz) [(h0, .inr (0, [.ref a1, .ref a2, .int (nI w), .int (nI h), .int (nI kw), .int (nI kh)])), (a1, .inl (cA, 4096, .inl u)), (a2, .inl (cB, 4096, .inl g))]) (va_A [(h0, .inr (0, [.ref a1, .ref a2, .int (nI w), .int (nI h), .int (nI kw), .int (nI kh)])), (a1, .inl (cA, 4096, .inl f)), (a2, .inl (cB, 4096, .inl g))] sz)) (vx_X (fun _ : Unit => True) (fun (E : String) (_ : Unit) (t : State) => ((E = "java/lang/IndexOutOfBoundsException" ∧ cf_pk w h bx bz q v = nI 1) ∨ (E = "java/lang/IllegalArgumentException" ∧ cf_pk w h bx bz q v = nI 2)) ∧ va_P (dC, dI) vwCm [(h0, .inr (0, [.ref a1, .ref a2, .int (nI w), .int (nI h), .int (nI kw), .int (nI kh)])), (a1, .inl (cA, 4096, .inl f)), (a2, .inl (cB, 4096, .inl g))] t.heap) (va_A [(h0, .inr (0, [.ref a1, .ref a2, .int (nI w), .int (nI h), .int (nI kw), .int (nI kh)])), (a1, .inl (cA, 4096, .inl f)), (a2, .inl (cB, 4096, .inl g))] sz)) 1 6 (va_A [(h0, .inr (0, [.ref a1, .ref a2, .int (nI w), .int (nI h), .int (nI kw), .int (nI kh)])), (a1, .inl (cA, 4096, .inl f)), (a2, .inl (cB, 4096, .inl g))] sz) := by
  refine vx_ofW (cc := cX0_put) (maxL := 5) (ret := none) (by decide) rfl ?_
  intro p e s m args below meth c s₁ B hml hnt hv
  obtain ⟨rfl, hsz, hP, hK, hD0, hXf, hZf⟩ := hv
  have hx := B.exec
  have hb := B.bytes
  have hr := B.returns
  have hts := atoms_spec (ws := wsX0_put) B.pre
  have hown : s.vm.findClass RX0 = some m.cls := findClass_of_methodNamed B.named
  have hlocks := B.notSynchronized
  subst hsz
  have hD := hD0.self (sz := s.heap.size)
  generalize hAe : va_A [(h0, .inr (0, [.ref a1, .ref a2, .int (nI w), .int (nI h), .int (nI kw), .int (nI kh)])), (a1, .inl (cA, 4096, .inl f)), (a2, .inl (cB, 4096, .inl g))] s.heap.size = A at hD hZf ⊢
  have hA : ∀ q : Nat, s.heap.size ≤ q → A q := fun q h => by rw [← hAe]; exact Or.inr h
  have hS : va_S A s.heap s.heap [] := va_S.rf
  have hP : va_P (dC, dI) vwCm [(h0, .inr (0, [.ref a1, .ref a2, .int (nI w), .int (nI h), .int (nI kw), .int (nI kh)])), (a1, .inl (cA, 4096, .inl f)), (a2, .inl (cB, 4096, .inl g))] s.heap := hP
  have hl := lv_entry ([.ref h0, .int bx, .int bz, .int q, .int v]) (n := 5) (Nat.le_of_ble_eq_true rfl)
  rw [lg_entry_eq]
  generalize (lg_sl ([.ref h0, .int bx, .int bz, .int q, .int v]) ++ List.replicate (5 - (lg_sl ([.ref h0, .int bx, .int bz, .int q, .int v])).length) Slot.unset).toArray = ls at hl ⊢
  have hl : lv_has ls 5 [(0, .ref h0), (1, .int bx), (2, .int bz), (3, .int q), (4, .int v)] := hl
  refine lv_aload_n hx hb dX0_put_0 rfl (lv_at hl 0 rfl) ?_
  refine lv_iload_n hx hb dX0_put_1 rfl (lv_at hl 1 rfl) ?_
  refine lv_iload_n hx hb dX0_put_2 rfl (lv_at hl 2 rfl) ?_
  have hPc := hP.sub (ws' := [(h0, .inr (0, [.ref a1, .ref a2, .int (nI w), .int (nI h), .int (nI kw), .int (nI kh)])), (a1, .inl (cA, 4096, .inl f)), (a2, .inl (cB, 4096, .inl g))]) [0, 1, 2] rfl
  have hKc := hK.sub (tys' := [(cA, .int), (cB, .int)]) [0, 1] rfl
  refine vp_callSi (W.runV (As := [.int bx, .int bz]) (rest := []) ⟨hx, hb, hml, hown, hts⟩ (kX0_isBlock l dC dI h0 a1 a2 cA cB f g w h kw kh bx bz) (cwV 2 hts gX0_put_X0_isBlock rfl rfl rfl (by decide +kernel) ⟨Nat.le_of_ble_eq_true rfl, Nat.le_of_ble_eq_true rfl⟩) ⟨fun a U g mk q => by obtain ⟨q0, qP, qK⟩ := q; exact ⟨q0, qP, va_K.moved (u := U) (U := U.calling g mk a) (Vm.Alike.refl U.vm) qK⟩, va_recv hKc hPc (ci := 0) (q0 := 0) rfl rfl, fun U hU hW => ⟨rfl, by rw [hU]; exact hPc, va_K.moved hW.alike hKc⟩⟩ rfl rfl hl.1 rfl (lv_room (Nat.le_of_ble_eq_true rfl)) dX0_put_3 ⟨Nat.le_of_ble_eq_true rfl, Nat.le_of_ble_eq_true rfl⟩) (fun r3 w3 => ?_)
  subst w3
  refine lv_if_eq (tgt := 16) hx hb dX0_put_6 (by decide) (fun c6 => ?_) (fun c6 => ?_)
  · skip
    exact vx_throwS (own := RX0) (cls := "java/lang/IndexOutOfBoundsException") (text := "no such block or place") (names := ["java/lang/RuntimeException", "java/lang/Exception"]) (ik := 41) (is := 43) (ic := 45) (A := A) hx hb htr hown (by decide +kernel) (by decide +kernel) (hts (.classLink RX0 41 "java/lang/IndexOutOfBoundsException") (by decide +kernel)) (hts (.initialized "java/lang/IndexOutOfBoundsException") (by decide +kernel)) hXf.2.1 (vx_hat (fun w hw9 => hts w (List.mem_cons_of_mem _ (List.mem_append_left _ (List.mem_append_right _ hw9)))) (B := cf_BIO) (by decide +kernel) (hXf.bio _)) (by decide +kernel) hZf.1 hZf.2 hS (hl.1.trans hml.symm) dX0_put_16 dX0_put_19 dX0_put_20 dX0_put_22 dX0_put_25 (fun x h => (hnt x h).elim) (Nat.le_of_ble_eq_true rfl) (Nat.le_of_ble_eq_true rfl) (Nat.le_of_ble_eq_true rfl) (Nat.le_of_ble_eq_true rfl) hlocks (fun t ha hz hq => ⟨(), trivial, ⟨(by have e : cf_pk w h bx bz q v = nI 1 := (by unfold cf_pk; (first | rw [if_pos c6] | rw [if_neg c6] | rw [if_neg (cf_nlt c6)] | rw [if_pos (cf_nle c6)] | skip)); exact Or.inl ⟨rfl, e⟩), fun k q hk => (hP k q hk).kept (hq _ (hP k q hk).lt)⟩, hz, fun q h _ => hq q h⟩) hS.2.2 (by omega) (by omega)
  · skip
    obtain ⟨x, z, hx_, hz_, ebx, ebz⟩ := cf_ib_1 hw hh c6
    refine lv_iload_n hx hb dX0_put_9 rfl (lv_at hl 3 rfl) ?_
    refine vp_callSi (W.runS (As := [.int q]) (rest := []) ⟨hx, hb, hml, hown, hts⟩ (kX0_isPlace l q) (va_cwS 1 hts gX0_put_X0_isPlace rfl rfl rfl (by decide +kernel) ⟨Nat.le_of_ble_eq_true rfl, Nat.le_of_ble_eq_true rfl⟩) ⟨fun a U g mk q => q, fun U hU hW => ⟨rfl, trivial⟩⟩ rfl rfl hl.1 rfl (lv_room (Nat.le_of_ble_eq_true rfl)) dX0_put_10 ⟨Nat.le_of_ble_eq_true rfl, Nat.le_of_ble_eq_true rfl⟩) (fun r10 w10 => ?_)
    subst w10
    refine lv_if_ne (tgt := 26) hx hb dX0_put_13 (by decide) (fun c13 => ?_) (fun c13 => ?_)
    · skip
      obtain ⟨j, hj, eq⟩ := cf_ip_1 c13
      refine lv_iload hx hb dX0_put_26 (lv_at hl 4 rfl) ?_
      refine lv_sipush (v := (-32767)) hx hb dX0_put_28 (by decide +kernel) ?_
      refine lv_icmp_lt (tgt := 42) hx hb dX0_put_31 (by decide) (fun c31 => ?_) (fun c31 => ?_)
      · skip
        exact vx_throwS (own := RX0) (cls := "java/lang/IllegalArgumentException") (text := "a coefficient is -32767 .. 32767") (names := ["java/lang/RuntimeException", "java/lang/Exception"]) (ik := 48) (is := 50) (ic := 52) (A := A) hx hb htr hown (by decide +kernel) (by decide +kernel) (hts (.classLink RX0 48 "java/lang/IllegalArgumentException") (by decide +kernel)) (hts (.initialized "java/lang/IllegalArgumentException") (by decide +kernel)) hXf.2.2.1 (vx_hat (fun w hw9 => hts w (List.mem_cons_of_mem _ (List.mem_append_right _ hw9))) (B := cf_BIA) (by decide +kernel) (hXf.bia _)) (by decide +kernel) hZf.1 hZf.2 hS (hl.1.trans hml.symm) dX0_put_42 dX0_put_45 dX0_put_46 dX0_put_48 dX0_put_51 (fun x h => (hnt x h).elim) (Nat.le_of_ble_eq_true rfl) (Nat.le_of_ble_eq_true rfl) (Nat.le_of_ble_eq_true rfl) (Nat.le_of_ble_eq_true rfl) hlocks (fun t ha hz hq => ⟨(), trivial, ⟨(by have e : cf_pk w h bx bz q v = nI 2 := (by unfold cf_pk; (first | rw [if_pos c6] | rw [if_neg c6] | rw [if_neg (cf_nlt c6)] | rw [if_pos (cf_nle c6)] | skip); (first | rw [if_pos c13] | rw [if_neg c13] | rw [if_neg (cf_nlt c13)] | rw [if_pos (cf_nle c13)] | skip); (first | rw [if_pos c31] | rw [if_neg c31] | rw [if_neg (cf_nlt c31)] | rw [if_pos (cf_nle c31)] | skip)); exact Or.inr ⟨rfl, e⟩), fun k q hk => (hP k q hk).kept (hq _ (hP k q hk).lt)⟩, hz, fun q h _ => hq q h⟩) hS.2.2 (by omega) (by omega)
      · skip
        refine lv_iload hx hb dX0_put_34 (lv_at hl 4 rfl) ?_
        refine lv_sipush (v := nI 32767) hx hb dX0_put_36 (by decide +kernel) ?_
        refine lv_icmp_le (tgt := 52) hx hb dX0_put_39 (by decide) (fun c39 => ?_) (fun c39 => ?_)
        · skip
          refine lv_aload_n hx hb dX0_put_52 rfl (lv_at hl 0 rfl) ?_
          refine va_get (D := (dC, dI)) (ci := 0) (v := .ref a1) (C := RX0) (T := TX0) (N := 6) hx hb hts (by decide +kernel) hown hK hP 0 rfl rfl 0 (by decide) (hts (.fieldLink RX0 26 "CoefTurns" "cells" "[I") (by decide +kernel)) (fun _ h9 => h9) rfl dX0_put_53 ?_
          refine lv_iload_n hx hb dX0_put_56 rfl (lv_at hl 1 rfl) ?_
          refine cf_top ebx ?_
          refine lv_iload_n hx hb dX0_put_57 rfl (lv_at hl 2 rfl) ?_
          refine cf_top ebz ?_
          refine vp_callSi (W.runS (As := [.int (nI x), .int (nI z)]) (rest := [.ref a1]) ⟨hx, hb, hml, hown, hts⟩ (kX0_blockStart l x z) (va_cwS 2 hts gX0_put_X0_blockStart rfl rfl rfl (by decide +kernel) ⟨Nat.le_of_ble_eq_true rfl, Nat.le_of_ble_eq_true rfl⟩) ⟨fun a U g mk q => q, fun U hU hW => ⟨rfl, trivial⟩⟩ rfl rfl hl.1 rfl (lv_room (Nat.le_of_ble_eq_true rfl)) dX0_put_58 ⟨Nat.le_of_ble_eq_true rfl, Nat.le_of_ble_eq_true rfl⟩) (fun r58 w58 => ?_)
          subst w58
          refine lv_iload_n hx hb dX0_put_61 rfl (lv_at hl 3 rfl) ?_
          refine cf_top eq ?_
          refine lv_iadd hx hb dX0_put_62 ?_
          refine cf_top (nI_add _ _) ?_
          refine lv_iload hx hb dX0_put_63 (lv_at hl 4 rfl) ?_
          refine cf_iast (D := (dC, dI)) hx hb hK hP hD hS 1 0 rfl rfl (k := 64 * (8 * z + x) + j) (by omega) (by decide) dX0_put_65 (fun H locs hP hD hS => ?_)
          have hP : va_P (dC, dI) vwCm [(h0, .inr (0, [.ref a1, .ref a2, .int (nI w), .int (nI h), .int (nI kw), .int (nI kh)])), (a1, .inl (cA, 4096, .inl (upd f (64 * (8 * z + x) + j) v))), (a2, .inl (cB, 4096, .inl g))] H := hP
          have hD : va_D A [(h0, .inr (0, [.ref a1, .ref a2, .int (nI w), .int (nI h), .int (nI kw), .int (nI kh)])), (a1, .inl (cA, 4096, .inl (upd f (64 * (8 * z + x) + j) v))), (a2, .inl (cB, 4096, .inl g))] := hD
          have hP9 := hP.sub (ws' := [(h0, .inr (0, [.ref a1, .ref a2, .int (nI w), .int (nI h), .int (nI kw), .int (nI kh)])), (a1, .inl (cA, 4096, .inl (upd f (64 * (8 * z + x) + j) v))), (a2, .inl (cB, 4096, .inl g))]) [0, 1, 2] rfl
          have hD9 := hD.sub (ws' := [(h0, .inr (0, [.ref a1, .ref a2, .int (nI w), .int (nI h), .int (nI kw), .int (nI kh)])), (a1, .inl (cA, 4096, .inl (upd f (64 * (8 * z + x) + j) v))), (a2, .inl (cB, 4096, .inl g))]) [0, 1, 2] (by decide) rfl
          refine W.widen (k := 1) (n := 6) (by omega) (by omega) ?_
          refine vx_ret ?_
          exact W.vret hx hb hr (fun t ht hW => ⟨⟨_, rfl, (by have e : cf_pk w h bx bz q v = nI 0 := (by unfold cf_pk; (first | rw [if_pos c6] | rw [if_neg c6] | rw [if_neg (cf_nlt c6)] | rw [if_pos (cf_nle c6)] | skip); (first | rw [if_pos c13] | rw [if_neg c13] | rw [if_neg (cf_nlt c13)] | rw [if_pos (cf_nle c13)] | skip); (first | rw [if_pos c31] | rw [if_neg c31] | rw [if_neg (cf_nlt c31)] | rw [if_pos (cf_nle c31)] | skip); (first | rw [if_pos c39] | rw [if_neg c39] | rw [if_neg (cf_nlt c39)] | rw [if_pos (cf_nle c39)] | skip)); refine ⟨e, ?_⟩; unfold cf_pu; rw [if_pos (e.trans nI_0), ebx, ebz, eq, nI_clamp (by omega), nI_clamp (by omega), nI_clamp (by omega)]; exact cf_p1_upd hw hx_ hj), by rw [ht]; exact hP9, va_K.moved hW.alike hK, hD9⟩, hS.F ht⟩) hS.2.2 dX0_put_66
        · skip
          exact vx_throwS (own := RX0) (cls := "java/lang/IllegalArgumentException") (text := "a coefficient is -32767 .. 32767") (names := ["java/lang/RuntimeException", "java/lang/Exception"]) (ik := 48) (is := 50) (ic := 52) (A := A) hx hb htr hown (by decide +kernel) (by decide +kernel) (hts (.classLink RX0 48 "java/lang/IllegalArgumentException") (by decide +kernel)) (hts (.initialized "java/lang/IllegalArgumentException") (by decide +kernel)) hXf.2.2.1 (vx_hat (fun w hw9 => hts w (List.mem_cons_of_mem _ (List.mem_append_right _ hw9))) (B := cf_BIA) (by decide +kernel) (hXf.bia _)) (by decide +kernel) hZf.1 hZf.2 hS (hl.1.trans hml.symm) dX0_put_42 dX0_put_45 dX0_put_46 dX0_put_48 dX0_put_51 (fun x h => (hnt x h).elim) (Nat.le_of_ble_eq_true rfl) (Nat.le_of_ble_eq_true rfl) (Nat.le_of_ble_eq_true rfl) (Nat.le_of_ble_eq_true rfl) hlocks (fun t ha hz hq => ⟨(), trivial, ⟨(by have e : cf_pk w h bx bz q v = nI 2 := (by unfold cf_pk; (first | rw [if_pos c6] | rw [if_neg c6] | rw [if_neg (cf_nlt c6)] | rw [if_pos (cf_nle c6)] | skip); (first | rw [if_pos c13] | rw [if_neg c13] | rw [if_neg (cf_nlt c13)] | rw [if_pos (cf_nle c13)] | skip); (first | rw [if_pos c31] | rw [if_neg c31] | rw [if_neg (cf_nlt c31)] | rw [if_pos (cf_nle c31)] | skip); (first | rw [if_pos c39] | rw [if_neg c39] | rw [if_neg (cf_nlt c39)] | rw [if_pos (cf_nle c39)] | skip)); exact Or.inr ⟨rfl, e⟩), fun k q hk => (hP k q hk).kept (hq _ (hP k q hk).lt)⟩, hz, fun q h _ => hq q h⟩) hS.2.2 (by omega) (by omega)
    · skip
      exact vx_throwS (own := RX0) (cls := "java/lang/IndexOutOfBoundsException") (text := "no such block or place") (names := ["java/lang/RuntimeException", "java/lang/Exception"]) (ik := 41) (is := 43) (ic := 45) (A := A) hx hb htr hown (by decide +kernel) (by decide +kernel) (hts (.classLink RX0 41 "java/lang/IndexOutOfBoundsException") (by decide +kernel)) (hts (.initialized "java/lang/IndexOutOfBoundsException") (by decide +kernel)) hXf.2.1 (vx_hat (fun w hw9 => hts w (List.mem_cons_of_mem _ (List.mem_append_left _ (List.mem_append_right _ hw9)))) (B := cf_BIO) (by decide +kernel) (hXf.bio _)) (by decide +kernel) hZf.1 hZf.2 hS (hl.1.trans hml.symm) dX0_put_16 dX0_put_19 dX0_put_20 dX0_put_22 dX0_put_25 (fun x h => (hnt x h).elim) (Nat.le_of_ble_eq_true rfl) (Nat.le_of_ble_eq_true rfl) (Nat.le_of_ble_eq_true rfl) (Nat.le_of_ble_eq_true rfl) hlocks (fun t ha hz hq => ⟨(), trivial, ⟨(by have e : cf_pk w h bx bz q v = nI 1 := (by unfold cf_pk; (first | rw [if_pos c6] | rw [if_neg c6] | rw [if_neg (cf_nlt c6)] | rw [if_pos (cf_nle c6)] | skip); (first | rw [if_pos c13] | rw [if_neg c13] | rw [if_neg (cf_nlt c13)] | rw [if_pos (cf_nle c13)] | skip)); exact Or.inl ⟨rfl, e⟩), fun k q hk => (hP k q hk).kept (hq _ (hP k q hk).lt)⟩, hz, fun q h _ => hq q h⟩) hS.2.2 (by omega) (by omega)
set_option maxHeartbeats 4000000 in
set_option maxRecDepth 100000 in
/-- X0_sum -/
theorem kX0_sum (l : Launch) (dC : Nat → ClassId) (dI : Nat → Nat → Nat) (sz : Nat) (h0 a1 a2 : Nat) (cA cB : ClassId) (f g : Nat → Int32) (w h kw kh : Nat) (q : Int32) (sa1 sa2 sa3 : Nat) (hw : w ≤ 8) (hh : h ≤ 8) (htr : l.stackTraces = false) : vx_Met l yX0_sum wsX0_sum ({ frames := 6, cells := 1, slots := 6, locals := 100 }) (va_Pc [.ref h0, .int q] (fun U => U.heap.size = sz ∧ va_P (dC, dI) vwCm [(h0, .inr (0, [.ref a1, .ref a2, .int (nI w), .int (nI h), .int (nI kw), .int (nI kh)])), (a1, .inl (cA, 4096, .inl f)), (a2, .inl (cB, 4096, .inl g))] U.heap ∧ va_K (dC, dI) vwCm [(cA, .int), (cB, .int)] U ∧ va_D (fun _ => True) [(h0, .inr (0, [.ref a1, .ref a2, .int (nI w), .int (nI h), .int (nI kw), .int (nI kh)])), (a1, .inl (cA, 4096, .inl f)), (a2, .inl (cB, 4096, .inl g))] ∧ cf_Xf sa1 sa2 sa3 U ∧ cf_Zf (va_A [(h0, .inr (0, [.ref a1, .ref a2, .int (nI w), .int (nI h), .int (nI kw), .int (nI kh)])), (a1, .inl (cA, 4096, .inl f)), (a2, .inl (cB, 4096, .inl g))] sz) U U.heap)) (va_Ql (fun (r : Int64) (_ : Unit) => ∃ j : Nat, j < 64 ∧ q = nI j ∧ r = cf_su w h (cf_V f) j) (fun (u : Unit) (t : State) => va_P (dC, dI) vwCm [(h0, .inr (0, [.ref a1, .ref a2, .int (nI w), .int (nI h), .int (nI kw), .int (nI kh)])), (a1, .inl (cA, 4096, .inl f)), (a2, .inl (cB, 4096, .inl g))] t.heap ∧ va_K (dC, dI) vwCm [(cA, .int), (cB, .int)] t ∧ va_D (va_A [(h0, .inr (0, [.ref a1, .ref a2, .int (nI w), .int (nI h), .int (nI kw), .int (nI kh)])), (a1, .inl (cA, 4096, .inl f)), (a2, .inl (cB, 4096, .inl g))] sz) [(h0, .inr (0, [.ref a1, .ref a2, .int (nI w), .int (nI h), .int (nI kw), .int (nI kh)])), (a1, .inl (cA, 4096, .inl f)), (a2, .inl (cB, 4096, .inl g))]) (va_A [(h0, .inr (0, [.ref a1, .ref a2, .int (nI w), .int (nI h), .int (nI kw), .int (nI kh)])), (a1, .inl (cA, 4096, .inl f)), (a2, .inl (cB, 4096, .inl g))] sz)) (vx_X (fun _ : Unit => True) (fun (E : String) (_ : Unit) (t : State) => (E = "java/lang/IndexOutOfBoundsException" ∧ cf_ip q = 0) ∧ va_P (dC, dI) vwCm [(h0, .inr (0, [.ref a1, .ref a2, .int (nI w), .int (nI h), .int (nI kw), .int (nI kh)])), (a1, .inl (cA, 4096, .inl f)), (a2, .inl (cB, 4096, .inl g))] t.heap) (va_A [(h0, .inr (0, [.ref a1, .ref a2, .int (nI w), .int (nI h), .int (nI kw), .int (nI kh)])), (a1, .inl (cA, 4096, .inl f)), (a2, .inl (cB, 4096, .inl g))] sz)) 1 6 (va_A [(h0, .inr (0, [.ref a1, .ref a2, .int (nI w), .int (nI h), .int (nI kw), .int (nI kh)])), (a1, .inl (cA, 4096, .inl f)), (a2, .inl (cB, 4096, .inl g))] sz) := by
  refine vx_ofW (cc := cX0_sum) (maxL := 8) (ret := (some .long)) (by decide) rfl ?_
  intro p e s m args below meth c s₁ B hml hnt hv
  obtain ⟨rfl, hsz, hP, hK, hD0, hXf, hZf⟩ := hv
  have hx := B.exec
  have hb := B.bytes
  have hr := B.returns
  have hts := atoms_spec (ws := wsX0_sum) B.pre
  have hown : s.vm.findClass RX0 = some m.cls := findClass_of_methodNamed B.named
  have hlocks := B.notSynchronized
  subst hsz
  have hD := hD0.self (sz := s.heap.size)
  generalize hAe : va_A [(h0, .inr (0, [.ref a1, .ref a2, .int (nI w), .int (nI h), .int (nI kw), .int (nI kh)])), (a1, .inl (cA, 4096, .inl f)), (a2, .inl (cB, 4096, .inl g))] s.heap.size = A at hD hZf ⊢
  have hA : ∀ q : Nat, s.heap.size ≤ q → A q := fun q h => by rw [← hAe]; exact Or.inr h
  have hS : va_S A s.heap s.heap [] := va_S.rf
  have hP : va_P (dC, dI) vwCm [(h0, .inr (0, [.ref a1, .ref a2, .int (nI w), .int (nI h), .int (nI kw), .int (nI kh)])), (a1, .inl (cA, 4096, .inl f)), (a2, .inl (cB, 4096, .inl g))] s.heap := hP
  have hl := lv_entry ([.ref h0, .int q]) (n := 8) (Nat.le_of_ble_eq_true rfl)
  rw [lg_entry_eq]
  generalize (lg_sl ([.ref h0, .int q]) ++ List.replicate (8 - (lg_sl ([.ref h0, .int q])).length) Slot.unset).toArray = ls at hl ⊢
  have hl : lv_has ls 8 [(0, .ref h0), (1, .int q)] := hl
  refine lv_iload_n hx hb dX0_sum_0 rfl (lv_at hl 1 rfl) ?_
  refine vp_callSi (W.runS (As := [.int q]) (rest := []) ⟨hx, hb, hml, hown, hts⟩ (kX0_isPlace l q) (va_cwS 1 hts gX0_sum_X0_isPlace rfl rfl rfl (by decide +kernel) ⟨Nat.le_of_ble_eq_true rfl, Nat.le_of_ble_eq_true rfl⟩) ⟨fun a U g mk q => q, fun U hU hW => ⟨rfl, trivial⟩⟩ rfl rfl hl.1 rfl (lv_room (Nat.le_of_ble_eq_true rfl)) dX0_sum_1 ⟨Nat.le_of_ble_eq_true rfl, Nat.le_of_ble_eq_true rfl⟩) (fun r1 w1 => ?_)
  subst w1
  refine lv_if_ne (tgt := 17) hx hb dX0_sum_4 (by decide) (fun c4 => ?_) (fun c4 => ?_)
  · skip
    obtain ⟨j, hj, eq⟩ := cf_ip_1 c4
    refine lv_lconst (v := 0) hx hb dX0_sum_17 (by decide +kernel) ?_
    refine lv_lstore_n (lv' := [(2, .long 0), (0, .ref h0), (1, .int q)]) hx hb dX0_sum_18 rfl hl (by decide) rfl (fun ls hl => ?_)
    refine lv_iconst (v := nI 0) hx hb dX0_sum_19 (by decide +kernel) ?_
    refine lv_istore (lv' := [(4, .int (nI 0)), (2, .long 0), (0, .ref h0), (1, .int q)]) hx hb dX0_sum_20 hl (by decide) rfl (fun ls hl => ?_)
    have lp22 : ∀ (n22 : Nat) (y0 : Nat) (s0 : Int64), y0 ≤ h → h < y0 + n22 → s0 = cf_fo (fun (a : Int64) y => cf_fo (fun (a : Int64) x => a + (nI (1 + x + 8 * y)).toInt64 * (f (64 * (8 * y + x) + j)).toInt64) w a) y0 0 → ∀ (H : Heap) (locs : List Loc), va_P (dC, dI) vwCm [(h0, .inr (0, [.ref a1, .ref a2, .int (nI w), .int (nI h), .int (nI kw), .int (nI kh)])), (a1, .inl (cA, 4096, .inl f)), (a2, .inl (cB, 4096, .inl g))] H → va_D A [(h0, .inr (0, [.ref a1, .ref a2, .int (nI w), .int (nI h), .int (nI kw), .int (nI kh)])), (a1, .inl (cA, 4096, .inl f)), (a2, .inl (cB, 4096, .inl g))] → va_S A s.heap H locs → ∀ (ls : Array Slot), lv_has ls 8 [(0, .ref h0), (1, .int q), (2, .long s0), (4, .int (nI y0))] → W p l e (headSpec wsX0_sum ({ frames := 6, cells := 1, slots := 6, locals := 100 })).room s m ([.ref h0, .int q] : List Value).toArray below meth c H locs 0 0 (vx_MQ below (va_Ql (fun (r : Int64) (_ : Unit) => ∃ j : Nat, j < 64 ∧ q = nI j ∧ r = cf_su w h (cf_V f) j) (fun (u : Unit) (t : State) => va_P (dC, dI) vwCm [(h0, .inr (0, [.ref a1, .ref a2, .int (nI w), .int (nI h), .int (nI kw), .int (nI kh)])), (a1, .inl (cA, 4096, .inl f)), (a2, .inl (cB, 4096, .inl g))] t.heap ∧ va_K (dC, dI) vwCm [(cA, .int), (cB, .int)] t ∧ va_D A [(h0, .inr (0, [.ref a1, .ref a2, .int (nI w), .int (nI h), .int (nI kw), .int (nI kh)])), (a1, .inl (cA, 4096, .inl f)), (a2, .inl (cB, 4096, .inl g))]) A) (vx_X (fun _ : Unit => True) (fun (E : String) (_ : Unit) (t : State) => (E = "java/lang/IndexOutOfBoundsException" ∧ cf_ip q = 0) ∧ va_P (dC, dI) vwCm [(h0, .inr (0, [.ref a1, .ref a2, .int (nI w), .int (nI h), .int (nI kw), .int (nI kh)])), (a1, .inl (cA, 4096, .inl f)), (a2, .inl (cB, 4096, .inl g))] t.heap) A) ([.ref h0, .int q] : List Value).toArray s 1 6 A) (F0 m 22 ls []) := by
      intro n22
      induction n22 with
      | zero => intro y0 s0 h1 h2; exact absurd h2 (by omega)
      | succ n22 ih22 =>
        intro y0 s0 hk22 hn22 hI H locs hP hD hS ls hl
        refine lv_iload hx hb dX0_sum_22 (lv_at hl 3 rfl) ?_
        refine lv_aload_n hx hb dX0_sum_24 rfl (lv_at hl 0 rfl) ?_
        refine va_get (D := (dC, dI)) (ci := 0) (v := .int (nI h)) (C := RX0) (T := TX0) (N := 6) hx hb hts (by decide +kernel) hown hK hP 0 rfl rfl 3 (by decide) (hts (.fieldLink RX0 17 "CoefTurns" "height" "I") (by decide +kernel)) (fun _ h9 => h9) rfl dX0_sum_25 ?_
        refine lv_icmp_ge (tgt := 89) hx hb dX0_sum_28 (by decide) (fun c28 => ?_) (fun c28 => ?_)
        · skip
          have c28 := (nI_leI (a := h) (b := y0) (by omega) (by omega)).mp c28
          refine lv_lload_n hx hb dX0_sum_89 rfl (lv_at hl 2 rfl) ?_
          have hP9 := hP.sub (ws' := [(h0, .inr (0, [.ref a1, .ref a2, .int (nI w), .int (nI h), .int (nI kw), .int (nI kh)])), (a1, .inl (cA, 4096, .inl f)), (a2, .inl (cB, 4096, .inl g))]) [0, 1, 2] rfl
          have hD9 := hD.sub (ws' := [(h0, .inr (0, [.ref a1, .ref a2, .int (nI w), .int (nI h), .int (nI kw), .int (nI kh)])), (a1, .inl (cA, 4096, .inl f)), (a2, .inl (cB, 4096, .inl g))]) [0, 1, 2] (by decide) rfl
          refine W.widen (k := 1) (n := 6) (by omega) (by omega) ?_
          refine vx_ret ?_
          exact W.lret hx hb hr (fun t ht hW => ⟨⟨_, (), rfl, ⟨j, hj, eq, (by have e : y0 = h := (by omega); rw [hI, e]; rfl)⟩, by rw [ht]; exact hP9, va_K.moved hW.alike hK, hD9⟩, hS.F ht⟩) hS.2.2 dX0_sum_90
        · skip
          have c28 := mt (nI_leI (a := h) (b := y0) (by omega) (by omega)).mpr c28
          refine lv_iconst (v := nI 0) hx hb dX0_sum_31 (by decide +kernel) ?_
          refine lv_istore (lv' := [(5, .int (nI 0)), (0, .ref h0), (1, .int q), (2, .long s0), (4, .int (nI y0))]) hx hb dX0_sum_32 hl (by decide) rfl (fun ls hl => ?_)
          have lp34 : ∀ (n34 : Nat) (x0 : Nat) (s1 : Int64), x0 ≤ w → w < x0 + n34 → s1 = cf_fo (fun (a : Int64) x => a + (nI (1 + x + 8 * y0)).toInt64 * (f (64 * (8 * y0 + x) + j)).toInt64) x0 s0 → ∀ (H : Heap) (locs : List Loc), va_P (dC, dI) vwCm [(h0, .inr (0, [.ref a1, .ref a2, .int (nI w), .int (nI h), .int (nI kw), .int (nI kh)])), (a1, .inl (cA, 4096, .inl f)), (a2, .inl (cB, 4096, .inl g))] H → va_D A [(h0, .inr (0, [.ref a1, .ref a2, .int (nI w), .int (nI h), .int (nI kw), .int (nI kh)])), (a1, .inl (cA, 4096, .inl f)), (a2, .inl (cB, 4096, .inl g))] → va_S A s.heap H locs → ∀ (ls : Array Slot), lv_has ls 8 [(0, .ref h0), (1, .int q), (2, .long s1), (4, .int (nI y0)), (5, .int (nI x0))] → W p l e (headSpec wsX0_sum ({ frames := 6, cells := 1, slots := 6, locals := 100 })).room s m ([.ref h0, .int q] : List Value).toArray below meth c H locs 0 0 (vx_MQ below (va_Ql (fun (r : Int64) (_ : Unit) => ∃ j : Nat, j < 64 ∧ q = nI j ∧ r = cf_su w h (cf_V f) j) (fun (u : Unit) (t : State) => va_P (dC, dI) vwCm [(h0, .inr (0, [.ref a1, .ref a2, .int (nI w), .int (nI h), .int (nI kw), .int (nI kh)])), (a1, .inl (cA, 4096, .inl f)), (a2, .inl (cB, 4096, .inl g))] t.heap ∧ va_K (dC, dI) vwCm [(cA, .int), (cB, .int)] t ∧ va_D A [(h0, .inr (0, [.ref a1, .ref a2, .int (nI w), .int (nI h), .int (nI kw), .int (nI kh)])), (a1, .inl (cA, 4096, .inl f)), (a2, .inl (cB, 4096, .inl g))]) A) (vx_X (fun _ : Unit => True) (fun (E : String) (_ : Unit) (t : State) => (E = "java/lang/IndexOutOfBoundsException" ∧ cf_ip q = 0) ∧ va_P (dC, dI) vwCm [(h0, .inr (0, [.ref a1, .ref a2, .int (nI w), .int (nI h), .int (nI kw), .int (nI kh)])), (a1, .inl (cA, 4096, .inl f)), (a2, .inl (cB, 4096, .inl g))] t.heap) A) ([.ref h0, .int q] : List Value).toArray s 1 6 A) (F0 m 34 ls []) := by
            intro n34
            induction n34 with
            | zero => intro x0 s1 h1 h2; exact absurd h2 (by omega)
            | succ n34 ih34 =>
              intro x0 s1 hk34 hn34 hJ H locs hP hD hS ls hl
              refine lv_iload hx hb dX0_sum_34 (lv_at hl 4 rfl) ?_
              refine lv_aload_n hx hb dX0_sum_36 rfl (lv_at hl 0 rfl) ?_
              refine va_get (D := (dC, dI)) (ci := 0) (v := .int (nI w)) (C := RX0) (T := TX0) (N := 6) hx hb hts (by decide +kernel) hown hK hP 0 rfl rfl 2 (by decide) (hts (.fieldLink RX0 13 "CoefTurns" "width" "I") (by decide +kernel)) (fun _ h9 => h9) rfl dX0_sum_37 ?_
              refine lv_icmp_ge (tgt := 83) hx hb dX0_sum_40 (by decide) (fun c40 => ?_) (fun c40 => ?_)
              · skip
                have c40 := (nI_leI (a := w) (b := x0) (by omega) (by omega)).mp c40
                refine lv_iinc (v := nI (y0 + 1)) (lv' := [(4, .int (nI (y0 + 1))), (0, .ref h0), (1, .int q), (2, .long s1), (5, .int (nI x0))]) hx hb dX0_sum_83 hl (k := 3) rfl (by rw [← nI_add]; rfl) (by decide) rfl (fun ls hl => ?_)
                refine lv_goto (tgt := 22) hx hb dX0_sum_86 (by decide) ?_
                exact ih22 (y0 + 1) s1 (by omega) (by omega) (by have e : x0 = w := (by omega); rw [hJ, e, hI]; rfl) H locs hP hD hS ls (lv_sub hl [1, 2, 3, 0] rfl)
              · skip
                have c40 := mt (nI_leI (a := w) (b := x0) (by omega) (by omega)).mpr c40
                refine lv_iconst (v := nI 1) hx hb dX0_sum_43 (by decide +kernel) ?_
                refine lv_iload hx hb dX0_sum_44 (lv_at hl 4 rfl) ?_
                refine lv_iadd hx hb dX0_sum_46 ?_
                refine cf_top (nI_add _ _) ?_
                refine lv_bipush (v := nI 8) hx hb dX0_sum_47 (by decide +kernel) ?_
                refine lv_iload hx hb dX0_sum_49 (lv_at hl 3 rfl) ?_
                refine lv_imul hx hb dX0_sum_51 ?_
                refine cf_top (pk_mul _ _) ?_
                refine lv_iadd hx hb dX0_sum_52 ?_
                refine cf_top (nI_add _ _) ?_
                refine lv_i2l hx hb dX0_sum_53 rfl ?_
                refine lv_lstore (lv' := [(6, .long ((nI (1 + x0 + 8 * y0)).toInt64)), (0, .ref h0), (1, .int q), (2, .long s1), (4, .int (nI y0)), (5, .int (nI x0))]) hx hb dX0_sum_54 hl (by decide) rfl (fun ls hl => ?_)
                refine lv_lload_n hx hb dX0_sum_56 rfl (lv_at hl 3 rfl) ?_
                refine lv_lload hx hb dX0_sum_57 (lv_at hl 0 rfl) ?_
                refine lv_aload_n hx hb dX0_sum_59 rfl (lv_at hl 1 rfl) ?_
                refine va_get (D := (dC, dI)) (ci := 0) (v := .ref a1) (C := RX0) (T := TX0) (N := 6) hx hb hts (by decide +kernel) hown hK hP 0 rfl rfl 0 (by decide) (hts (.fieldLink RX0 26 "CoefTurns" "cells" "[I") (by decide +kernel)) (fun _ h9 => h9) rfl dX0_sum_60 ?_
                refine lv_iload hx hb dX0_sum_63 (lv_at hl 5 rfl) ?_
                refine lv_iload hx hb dX0_sum_65 (lv_at hl 4 rfl) ?_
                refine vp_callSi (W.runS (As := [.int (nI x0), .int (nI y0)]) (rest := [.ref a1, .long ((nI (1 + x0 + 8 * y0)).toInt64), .long s1]) ⟨hx, hb, hml, hown, hts⟩ (kX0_blockStart l x0 y0) (va_cwS 2 hts gX0_sum_X0_blockStart rfl rfl rfl (by decide +kernel) ⟨Nat.le_of_ble_eq_true rfl, Nat.le_of_ble_eq_true rfl⟩) ⟨fun a U g mk q => q, fun U hU hW => ⟨rfl, trivial⟩⟩ rfl rfl hl.1 rfl (lv_room (Nat.le_of_ble_eq_true rfl)) dX0_sum_67 ⟨Nat.le_of_ble_eq_true rfl, Nat.le_of_ble_eq_true rfl⟩) (fun r67 w67 => ?_)
                subst w67
                refine lv_iload_n hx hb dX0_sum_70 rfl (lv_at hl 2 rfl) ?_
                refine cf_top eq ?_
                refine lv_iadd hx hb dX0_sum_71 ?_
                refine cf_top (nI_add _ _) ?_
                refine cf_iald (D := (dC, dI)) hx hb hK hP 1 0 rfl rfl (k := 64 * (8 * y0 + x0) + j) (by omega) (by decide) dX0_sum_72 ?_
                refine lv_i2l hx hb dX0_sum_73 rfl ?_
                refine lv_lmul hx hb dX0_sum_74 ?_
                refine lv_ladd hx hb dX0_sum_75 ?_
                refine lv_lstore_n (lv' := [(2, .long (s1 + (((nI (1 + x0 + 8 * y0)).toInt64) * ((f (64 * (8 * y0 + x0) + j)).toInt64)))), (6, .long ((nI (1 + x0 + 8 * y0)).toInt64)), (0, .ref h0), (1, .int q), (4, .int (nI y0)), (5, .int (nI x0))]) hx hb dX0_sum_76 rfl hl (by decide) rfl (fun ls hl => ?_)
                refine lv_iinc (v := nI (x0 + 1)) (lv' := [(5, .int (nI (x0 + 1))), (2, .long (s1 + (((nI (1 + x0 + 8 * y0)).toInt64) * ((f (64 * (8 * y0 + x0) + j)).toInt64)))), (6, .long ((nI (1 + x0 + 8 * y0)).toInt64)), (0, .ref h0), (1, .int q), (4, .int (nI y0))]) hx hb dX0_sum_77 hl (k := 5) rfl (by rw [← nI_add]; rfl) (by decide) rfl (fun ls hl => ?_)
                refine lv_goto (tgt := 34) hx hb dX0_sum_80 (by decide) ?_
                exact ih34 (x0 + 1) (s1 + (((nI (1 + x0 + 8 * y0)).toInt64) * ((f (64 * (8 * y0 + x0) + j)).toInt64))) (by omega) (by omega) (by rw [cf_fo_1, ← hJ]) H locs hP hD hS ls (lv_sub hl [3, 4, 1, 5, 0] rfl)
          exact lp34 (w + 1) 0 s0 (by omega) (by omega) rfl H locs hP hD hS ls (lv_sub hl [1, 2, 3, 4, 0] rfl)
    exact lp22 (h + 1) 0 0 (by omega) (by omega) rfl s.heap [] hP hD hS ls (lv_sub hl [2, 3, 1, 0] rfl)
  · skip
    exact vx_throwS (own := RX0) (cls := "java/lang/IndexOutOfBoundsException") (text := "no such place") (names := ["java/lang/RuntimeException", "java/lang/Exception"]) (ik := 41) (is := 98) (ic := 45) (A := A) hx hb htr hown (by decide +kernel) (by decide +kernel) (hts (.classLink RX0 41 "java/lang/IndexOutOfBoundsException") (by decide +kernel)) (hts (.initialized "java/lang/IndexOutOfBoundsException") (by decide +kernel)) hXf.2.2.2 (vx_hat (fun w hw9 => hts w (List.mem_cons_of_mem _ (List.mem_append_right _ hw9))) (B := cf_BIO) (by decide +kernel) (hXf.bio _)) (by decide +kernel) hZf.1 hZf.2 hS (hl.1.trans hml.symm) dX0_sum_7 dX0_sum_10 dX0_sum_11 dX0_sum_13 dX0_sum_16 (fun x h => (hnt x h).elim) (Nat.le_of_ble_eq_true rfl) (Nat.le_of_ble_eq_true rfl) (Nat.le_of_ble_eq_true rfl) (Nat.le_of_ble_eq_true rfl) hlocks (fun t ha hz hq => ⟨(), trivial, ⟨⟨rfl, c4⟩, fun k q hk => (hP k q hk).kept (hq _ (hP k q hk).lt)⟩, hz, fun q h _ => hq q h⟩) hS.2.2 (by omega) (by omega)
