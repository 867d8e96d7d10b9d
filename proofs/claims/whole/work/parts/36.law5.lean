set_option maxHeartbeats 4000000 in
set_option maxRecDepth 100000 in
/-- the law's case 12 -/
theorem lc_12 {p : Program} {l : Launch} {e : Env} {s : State} {m : MethodId} {below : List Frame} {meth : Method} {c : Code} {dC : Nat → ClassId} {dI : Nat → Nat → Nat} {h0 a1 a2 : Nat} {cA cB : ClassId} {o b1 b2 b3 : Nat} {cC cD cE : ClassId} {q3 : Nat} {cJ : ClassId} {b L i ca sl sa1 sa2 sa3 : Nat} {xs : Nat → Int32} (htr : l.stackTraces = false) (C0 : lw_At p s m meth c b L xs) (hL : L ≤ 2562) (hi : i + 5 ≤ L) (hca : ca + 1 ≤ 1035) (hsl : sl + 6 ≤ 28705) (hK : va_K (dC, dI) vwCm [(cA, .int), (cB, .int), (cC, .int), (cD, .int), (cE, .int), (cJ, .long)] s) (hXf : cf_Xf sa1 sa2 sa3 s) (hNc : va_Nc "java/lang/IllegalArgumentException" "java/lang/IndexOutOfBoundsException" s) (hZf : cf_Zf (fun q : Nat => s.heap.size ≤ q) s s.heap) (kk : lw_K p l e s m below meth c dC dI h0 a1 a2 cA cB o b1 b2 b3 cC cD cE q3 cJ b 631 i (ca + 1) (sl + 6)) : lw_K p l e s m below meth c dC dI h0 a1 a2 cA cB o b1 b2 b3 cC cD cE q3 cJ b 489 i ca sl := by
  obtain ⟨hx, hb, hr, hml, hown, hts, hX, hbl, hlocks, hgv⟩ := C0
  have hown : s.vm.findClass RL = some m.cls := hown
  have htsX : ∀ w ∈ wsL_law, w.before #[Value.ref b] s = true := fun w h => hts w (wsL_law_in w h)
  have htsY : ∀ w ∈ wsLy, w.before #[Value.ref b] s = true := fun w h => hts w (wsLy_in w h)
  have hA : ∀ q : Nat, s.heap.size ≤ q → (fun q : Nat => s.heap.size ≤ q) q := fun _ h => h
  have hbA : ¬ (fun q : Nat => s.heap.size ≤ q) b := Nat.not_le.mpr hbl
  intro f g f2 g2 md th fo w h kw kh H locs ls hok hP hD hS hl
  obtain ⟨⟨hw1, hw, hh1, hh, hkw1, hkw, hkh1, hkh⟩, hag, hkg⟩ := hok
  refine lv_aload_n hx hb dL_law_489 rfl (lv_at hl 1 rfl) ?_
  refine lv_aload_n hx hb dL_law_490 rfl (lv_at hl 0 rfl) ?_
  refine lv_iload hx hb dL_law_491 (lv_at hl 4 rfl) ?_
  refine lv_iconst (v := nI 1) hx hb dL_law_493 (by decide +kernel) ?_
  refine lv_iadd hx hb dL_law_494 ?_
  refine cf_top (nI_add _ _) ?_
  refine va_sld hx hb hX hbl hbA hS (by first | assumption | exact vp_in_nI (by omega) (by omega)) dL_law_495 ?_
  refine cf_top (show xs (nI (i + 1)).toNatClampNeg = xs (i + 1) by rw [nI_clamp (by omega)]) ?_
  refine lv_aload_n hx hb dL_law_496 rfl (lv_at hl 0 rfl) ?_
  refine lv_iload hx hb dL_law_497 (lv_at hl 4 rfl) ?_
  refine lv_iconst (v := nI 2) hx hb dL_law_499 (by decide +kernel) ?_
  refine lv_iadd hx hb dL_law_500 ?_
  refine cf_top (nI_add _ _) ?_
  refine va_sld hx hb hX hbl hbA hS (by first | assumption | exact vp_in_nI (by omega) (by omega)) dL_law_501 ?_
  refine cf_top (show xs (nI (i + 2)).toNatClampNeg = xs (i + 2) by rw [nI_clamp (by omega)]) ?_
  refine lv_aload_n hx hb dL_law_502 rfl (lv_at hl 0 rfl) ?_
  refine lv_iload hx hb dL_law_503 (lv_at hl 4 rfl) ?_
  refine lv_iconst (v := nI 3) hx hb dL_law_505 (by decide +kernel) ?_
  refine lv_iadd hx hb dL_law_506 ?_
  refine cf_top (nI_add _ _) ?_
  refine va_sld hx hb hX hbl hbA hS (by first | assumption | exact vp_in_nI (by omega) (by omega)) dL_law_507 ?_
  refine cf_top (show xs (nI (i + 3)).toNatClampNeg = xs (i + 3) by rw [nI_clamp (by omega)]) ?_
  refine lv_aload_n hx hb dL_law_508 rfl (lv_at hl 0 rfl) ?_
  refine lv_iload hx hb dL_law_509 (lv_at hl 4 rfl) ?_
  refine lv_iconst (v := nI 4) hx hb dL_law_511 (by decide +kernel) ?_
  refine lv_iadd hx hb dL_law_512 ?_
  refine cf_top (nI_add _ _) ?_
  refine va_sld hx hb hX hbl hbA hS (by first | assumption | exact vp_in_nI (by omega) (by omega)) dL_law_513 ?_
  refine cf_top (show xs (nI (i + 4)).toNatClampNeg = xs (i + 4) by rw [nI_clamp (by omega)]) ?_
  have hPc := hP.sub (ws' := [(h0, .inr (0, [.ref a1, .ref a2, .int (nI w), .int (nI h), .int (nI kw), .int (nI kh)])), (a1, .inl (cA, 4096, .inl f)), (a2, .inl (cB, 4096, .inl g))]) [0, 1, 2] rfl
  have hKc := hK.sub (tys' := [(cA, .int), (cB, .int)]) [0, 1] rfl
  refine vp_callSl (W.runV (As := [.int (xs (i + 1)), .int (xs (i + 2)), .int (xs (i + 3)), .int (xs (i + 4))]) (rest := []) ⟨hx, hb, hml, hown, htsX⟩ (kX0_four l dC dI h0 a1 a2 cA cB f g w h kw kh (xs (i + 1)) (xs (i + 2)) (xs (i + 3)) (xs (i + 4)) hw hh) (cwV 4 htsX gL_law_X0_four rfl rfl rfl (by decide +kernel) ⟨Nat.le_of_ble_eq_true rfl, Nat.le_of_ble_eq_true rfl⟩) ⟨fun a U g mk q => by obtain ⟨q0, qP, qK⟩ := q; exact ⟨q0, qP, va_K.moved (u := U) (U := U.calling g mk a) (Vm.Alike.refl U.vm) qK⟩, va_recv hKc hPc (ci := 0) (q0 := 0) rfl rfl, fun U hU hW => ⟨rfl, by rw [hU]; exact hPc, va_K.moved hW.alike hKc⟩⟩ rfl rfl hl.1 rfl (lv_room (Nat.le_of_ble_eq_true rfl)) dL_law_514 ⟨(show _ ≤ 1035 by omega), (show _ ≤ 28705 by omega)⟩) (fun r514 w514 => ?_)
  refine lv_aload_n hx hb dL_law_517 rfl (lv_at hl 2 rfl) ?_
  refine lv_aload_n hx hb dL_law_518 rfl (lv_at hl 0 rfl) ?_
  refine lv_iload hx hb dL_law_519 (lv_at hl 4 rfl) ?_
  refine lv_iconst (v := nI 1) hx hb dL_law_521 (by decide +kernel) ?_
  refine lv_iadd hx hb dL_law_522 ?_
  refine cf_top (nI_add _ _) ?_
  refine va_sld hx hb hX hbl hbA hS (by first | assumption | exact vp_in_nI (by omega) (by omega)) dL_law_523 ?_
  refine cf_top (show xs (nI (i + 1)).toNatClampNeg = xs (i + 1) by rw [nI_clamp (by omega)]) ?_
  refine lv_aload_n hx hb dL_law_524 rfl (lv_at hl 0 rfl) ?_
  refine lv_iload hx hb dL_law_525 (lv_at hl 4 rfl) ?_
  refine lv_iconst (v := nI 2) hx hb dL_law_527 (by decide +kernel) ?_
  refine lv_iadd hx hb dL_law_528 ?_
  refine cf_top (nI_add _ _) ?_
  refine va_sld hx hb hX hbl hbA hS (by first | assumption | exact vp_in_nI (by omega) (by omega)) dL_law_529 ?_
  refine cf_top (show xs (nI (i + 2)).toNatClampNeg = xs (i + 2) by rw [nI_clamp (by omega)]) ?_
  refine lv_aload_n hx hb dL_law_530 rfl (lv_at hl 0 rfl) ?_
  refine lv_iload hx hb dL_law_531 (lv_at hl 4 rfl) ?_
  refine lv_iconst (v := nI 3) hx hb dL_law_533 (by decide +kernel) ?_
  refine lv_iadd hx hb dL_law_534 ?_
  refine cf_top (nI_add _ _) ?_
  refine va_sld hx hb hX hbl hbA hS (by first | assumption | exact vp_in_nI (by omega) (by omega)) dL_law_535 ?_
  refine cf_top (show xs (nI (i + 3)).toNatClampNeg = xs (i + 3) by rw [nI_clamp (by omega)]) ?_
  refine lv_aload_n hx hb dL_law_536 rfl (lv_at hl 0 rfl) ?_
  refine lv_iload hx hb dL_law_537 (lv_at hl 4 rfl) ?_
  refine lv_iconst (v := nI 4) hx hb dL_law_539 (by decide +kernel) ?_
  refine lv_iadd hx hb dL_law_540 ?_
  refine cf_top (nI_add _ _) ?_
  refine va_sld hx hb hX hbl hbA hS (by first | assumption | exact vp_in_nI (by omega) (by omega)) dL_law_541 ?_
  refine cf_top (show xs (nI (i + 4)).toNatClampNeg = xs (i + 4) by rw [nI_clamp (by omega)]) ?_
  have hPc := hP.sub (ws' := [(o, .inr (1, [.int th, .int (nI w), .int (nI h), .int (nI kw), .int (nI kh), .ref b1, .ref b2, .ref b3])), (b1, .inl (cC, 4096, .inl f2)), (b2, .inl (cD, 4096, .inl g2)), (b3, .inl (cE, 4096, .inl md))]) [3, 4, 5, 6] rfl
  have hKc := hK.sub (tys' := [(cC, .int), (cD, .int), (cE, .int)]) [2, 3, 4] rfl
  have hDc := hD.sub (ws' := [(o, .inr (1, [.int th, .int (nI w), .int (nI h), .int (nI kw), .int (nI kh), .ref b1, .ref b2, .ref b3])), (b1, .inl (cC, 4096, .inl f2)), (b2, .inl (cD, 4096, .inl g2)), (b3, .inl (cE, 4096, .inl md))]) [3, 4, 5, 6] (by decide) rfl
  have hFc := va_free (wc := [(o, .inr (1, [.int th, .int (nI w), .int (nI h), .int (nI kw), .int (nI kh), .ref b1, .ref b2, .ref b3])), (b1, .inl (cC, 4096, .inl f2)), (b2, .inl (cD, 4096, .inl g2)), (b3, .inl (cE, 4096, .inl md))]) hD hS hA [3, 4, 5, 6] rfl
  refine va_calll (va_runV (As := [.int (xs (i + 1)), .int (xs (i + 2)), .int (xs (i + 3)), .int (xs (i + 4))]) (rest := [.long r514]) ⟨hx, hb, hml, hown, htsY⟩ (kY1_four l dC dI H.size o b1 b2 b3 cC cD cE f2 g2 md th w h kw kh (xs (i + 1)) (xs (i + 2)) (xs (i + 3)) (xs (i + 4)) (by omega) (by omega)) (cwV 4 htsY gL_law_Y1_four rfl rfl rfl (by decide +kernel) ⟨Nat.le_of_ble_eq_true rfl, Nat.le_of_ble_eq_true rfl⟩) ⟨fun a U g mk q => by obtain ⟨q0, q1, qP, qK, qD⟩ := q; exact ⟨q0, q1, qP, va_K.moved (u := U) (U := U.calling g mk a) (Vm.Alike.refl U.vm) qK, qD⟩, va_recv hKc hPc (ci := 1) (q0 := 0) rfl rfl, fun U hU hW => ⟨rfl, by rw [hU], by rw [hU]; exact hPc, va_K.moved hW.alike hKc, hDc.weaken (fun _ _ _ _ => trivial)⟩⟩ rfl rfl hl.1 rfl (lv_room (Nat.le_of_ble_eq_true rfl)) dL_law_542 ⟨(show _ ≤ 1035 by omega), (show _ ≤ 28705 by omega)⟩) hS (fun q _ h => hFc q h) hFc (fun r542 u542 t H1 locs ht hvm w542 hB hz1 hk1 hS => ?_)
  obtain ⟨hP1, -, hD1⟩ := hB
  rw [ht] at hP1
  try dsimp only at w542
  obtain ⟨hP, hD⟩ := va_join (wr := [(h0, .inr (0, [.ref a1, .ref a2, .int (nI w), .int (nI h), .int (nI kw), .int (nI kh)])), (a1, .inl (cA, 4096, .inl f)), (a2, .inl (cB, 4096, .inl g)), (q3, .inl (cJ, 1, .inr (.inl fo)))]) (w1 := [(o, .inr (1, [.int (nI 0), .int (nI w), .int (nI h), .int (nI kw), .int (nI kh), .ref b1, .ref b2, .ref b3])), (b1, .inl (cC, 4096, .inl f2)), (b2, .inl (cD, 4096, .inl g2)), (b3, .inl (cE, 4096, .inl md))]) hP hD [3, 4, 5, 6] [0, 1, 2, 7] rfl rfl (by decide) (by decide) hk1 hFc hP1 hD1
  generalize H1 = H at hP hS ⊢
  have hP : va_P (dC, dI) vwCm [(h0, .inr (0, [.ref a1, .ref a2, .int (nI w), .int (nI h), .int (nI kw), .int (nI kh)])), (a1, .inl (cA, 4096, .inl f)), (a2, .inl (cB, 4096, .inl g)), (q3, .inl (cJ, 1, .inr (.inl fo))), (o, .inr (1, [.int (nI 0), .int (nI w), .int (nI h), .int (nI kw), .int (nI kh), .ref b1, .ref b2, .ref b3])), (b1, .inl (cC, 4096, .inl f2)), (b2, .inl (cD, 4096, .inl g2)), (b3, .inl (cE, 4096, .inl md))] H := hP
  have hD : va_D (fun q : Nat => s.heap.size ≤ q) [(h0, .inr (0, [.ref a1, .ref a2, .int (nI w), .int (nI h), .int (nI kw), .int (nI kh)])), (a1, .inl (cA, 4096, .inl f)), (a2, .inl (cB, 4096, .inl g)), (q3, .inl (cJ, 1, .inr (.inl fo))), (o, .inr (1, [.int (nI 0), .int (nI w), .int (nI h), .int (nI kw), .int (nI kh), .ref b1, .ref b2, .ref b3])), (b1, .inl (cC, 4096, .inl f2)), (b2, .inl (cD, 4096, .inl g2)), (b3, .inl (cE, 4096, .inl md))] := hD
  refine W.lcmp hx hb dL_law_545 ?_
  refine lv_if_eq (tgt := 631) hx hb dL_law_546 (by decide) (fun c546 => ?_) (fun c546 => ?_)
  · skip
    refine W.widen (k := ca + 1) (n := sl + 6) (by omega) (by omega) ?_
    exact kk f g f2 g2 md (nI 0) fo w h kw kh H locs ls ⟨⟨hw1, hw, hh1, hh, hkw1, hkw, hkh1, hkh⟩, hag, hkg⟩ (hP.sub [0, 1, 2, 4, 5, 6, 7, 3] rfl) (hD.sub [0, 1, 2, 4, 5, 6, 7, 3] (by decide) rfl) hS (lv_sub hl [0, 1, 2, 3, 4] rfl)
  · skip
    exact absurd (lw_cmp0 (w514.trans ((cf_fou_ag hag hw hh _ _ _ _).trans w542.symm))) c546
set_option maxHeartbeats 4000000 in
set_option maxRecDepth 100000 in
/-- the law's case 13 -/
theorem lc_13 {p : Program} {l : Launch} {e : Env} {s : State} {m : MethodId} {below : List Frame} {meth : Method} {c : Code} {dC : Nat → ClassId} {dI : Nat → Nat → Nat} {h0 a1 a2 : Nat} {cA cB : ClassId} {o b1 b2 b3 : Nat} {cC cD cE : ClassId} {q3 : Nat} {cJ : ClassId} {b L i ca sl sa1 sa2 sa3 : Nat} {xs : Nat → Int32} (htr : l.stackTraces = false) (C0 : lw_At p s m meth c b L xs) (hL : L ≤ 2562) (hi : i + 5 ≤ L) (hca : ca + 1 ≤ 1035) (hsl : sl + 6 ≤ 28705) (hK : va_K (dC, dI) vwCm [(cA, .int), (cB, .int), (cC, .int), (cD, .int), (cE, .int), (cJ, .long)] s) (hXf : cf_Xf sa1 sa2 sa3 s) (hNc : va_Nc "java/lang/IllegalArgumentException" "java/lang/IndexOutOfBoundsException" s) (hZf : cf_Zf (fun q : Nat => s.heap.size ≤ q) s s.heap) (kk : lw_K p l e s m below meth c dC dI h0 a1 a2 cA cB o b1 b2 b3 cC cD cE q3 cJ b 631 i (ca + 1) (sl + 6)) : lw_K p l e s m below meth c dC dI h0 a1 a2 cA cB o b1 b2 b3 cC cD cE q3 cJ b 551 i ca sl := by
  obtain ⟨hx, hb, hr, hml, hown, hts, hX, hbl, hlocks, hgv⟩ := C0
  have hown : s.vm.findClass RL = some m.cls := hown
  have htsX : ∀ w ∈ wsL_law, w.before #[Value.ref b] s = true := fun w h => hts w (wsL_law_in w h)
  have htsY : ∀ w ∈ wsLy, w.before #[Value.ref b] s = true := fun w h => hts w (wsLy_in w h)
  have hA : ∀ q : Nat, s.heap.size ≤ q → (fun q : Nat => s.heap.size ≤ q) q := fun _ h => h
  have hbA : ¬ (fun q : Nat => s.heap.size ≤ q) b := Nat.not_le.mpr hbl
  intro f g f2 g2 md th fo w h kw kh H locs ls hok hP hD hS hl
  obtain ⟨⟨hw1, hw, hh1, hh, hkw1, hkw, hkh1, hkh⟩, hag, hkg⟩ := hok
  refine lv_aload_n hx hb dL_law_551 rfl (lv_at hl 1 rfl) ?_
  refine lv_aload_n hx hb dL_law_552 rfl (lv_at hl 0 rfl) ?_
  refine lv_iload hx hb dL_law_553 (lv_at hl 4 rfl) ?_
  refine lv_iconst (v := nI 1) hx hb dL_law_555 (by decide +kernel) ?_
  refine lv_iadd hx hb dL_law_556 ?_
  refine cf_top (nI_add _ _) ?_
  refine va_sld hx hb hX hbl hbA hS (by first | assumption | exact vp_in_nI (by omega) (by omega)) dL_law_557 ?_
  refine cf_top (show xs (nI (i + 1)).toNatClampNeg = xs (i + 1) by rw [nI_clamp (by omega)]) ?_
  refine lv_aload_n hx hb dL_law_558 rfl (lv_at hl 3 rfl) ?_
  have hPc := hP.sub (ws' := [(h0, .inr (0, [.ref a1, .ref a2, .int (nI w), .int (nI h), .int (nI kw), .int (nI kh)])), (a1, .inl (cA, 4096, .inl f)), (a2, .inl (cB, 4096, .inl g)), (q3, .inl (cJ, 1, .inr (.inl fo)))]) [0, 1, 2, 7] rfl
  have hKc := hK.sub (tys' := [(cA, .int), (cB, .int), (cJ, .long)]) [0, 1, 5] rfl
  have hDc := hD.sub (ws' := [(h0, .inr (0, [.ref a1, .ref a2, .int (nI w), .int (nI h), .int (nI kw), .int (nI kh)])), (a1, .inl (cA, 4096, .inl f)), (a2, .inl (cB, 4096, .inl g)), (q3, .inl (cJ, 1, .inr (.inl fo)))]) [0, 1, 2, 7] (by decide) rfl
  have hFc := va_free (wc := [(h0, .inr (0, [.ref a1, .ref a2, .int (nI w), .int (nI h), .int (nI kw), .int (nI kh)])), (a1, .inl (cA, 4096, .inl f)), (a2, .inl (cB, 4096, .inl g)), (q3, .inl (cJ, 1, .inr (.inl fo)))]) hD hS hA [0, 1, 2, 7] rfl
  have hZc : cf_Zf (va_A [(h0, .inr (0, [.ref a1, .ref a2, .int (nI w), .int (nI h), .int (nI kw), .int (nI kh)])), (a1, .inl (cA, 4096, .inl f)), (a2, .inl (cB, 4096, .inl g)), (q3, .inl (cJ, 1, .inr (.inl fo)))] H.size) s H := (hZf.kept (fun a h1 h2 => hS.2.1 a h1 h2)).narrow hFc
  refine va_calli (vx_runSW (hh := [(0, 8, 11, 13)]) (As := [.ref h0, .int (xs (i + 1)), .ref q3]) (rest := []) ⟨hx, hb, hml, hown, htsY⟩ (kL_sum l dC dI H.size h0 a1 a2 cA cB f g w h kw kh q3 cJ fo (xs (i + 1)) sa1 sa2 sa3 (by omega) (by omega) htr) (vx_cwSW 3 htsY gL_law_L_sum rfl rfl rfl (by decide +kernel) ⟨Nat.le_of_ble_eq_true rfl, Nat.le_of_ble_eq_true rfl⟩) ⟨fun a U g mk q => by obtain ⟨q0, q1, qP, qK, qD, qX, qZ⟩ := q; exact ⟨q0, q1, qP, va_K.moved (u := U) (U := U.calling g mk a) (Vm.Alike.refl U.vm) qK, qD, cf_Xf.same (u := U) (U := U.calling g mk a) rfl qX, cf_Zf.moved (u := U) (U := U.calling g mk a) (Vm.Alike.refl U.vm) qZ⟩, fun U hU hW => ⟨rfl, by rw [hU], by rw [hU]; exact hPc, va_K.moved hW.alike hKc, hDc.weaken (fun _ _ _ _ => trivial), hXf.warm hW, by rw [hU]; exact hZc.moved hW.alike⟩⟩ rfl rfl hl.1 rfl (lv_room (Nat.le_of_ble_eq_true rfl)) dL_law_559 ⟨(show _ ≤ 1035 by omega), (show _ ≤ 28705 by omega)⟩) hS (fun q _ h => hFc q h) hFc (fun r559 u559 t H1 locs ht hvm w559 hB hz1 hk1 hS => ?_)
  obtain ⟨hP1, -, hD1⟩ := hB
  rw [ht] at hP1
  try dsimp only at w559
  obtain ⟨hP, hD⟩ := va_join (wr := [(o, .inr (1, [.int th, .int (nI w), .int (nI h), .int (nI kw), .int (nI kh), .ref b1, .ref b2, .ref b3])), (b1, .inl (cC, 4096, .inl f2)), (b2, .inl (cD, 4096, .inl g2)), (b3, .inl (cE, 4096, .inl md))]) (w1 := [(h0, .inr (0, [.ref a1, .ref a2, .int (nI w), .int (nI h), .int (nI kw), .int (nI kh)])), (a1, .inl (cA, 4096, .inl f)), (a2, .inl (cB, 4096, .inl g)), (q3, .inl (cJ, 1, .inr (.inl u559)))]) hP hD [0, 1, 2, 7] [3, 4, 5, 6] rfl rfl (by decide) (by decide) hk1 hFc hP1 hD1
  generalize H1 = H at hP hS ⊢
  have hP : va_P (dC, dI) vwCm [(o, .inr (1, [.int th, .int (nI w), .int (nI h), .int (nI kw), .int (nI kh), .ref b1, .ref b2, .ref b3])), (b1, .inl (cC, 4096, .inl f2)), (b2, .inl (cD, 4096, .inl g2)), (b3, .inl (cE, 4096, .inl md)), (h0, .inr (0, [.ref a1, .ref a2, .int (nI w), .int (nI h), .int (nI kw), .int (nI kh)])), (a1, .inl (cA, 4096, .inl f)), (a2, .inl (cB, 4096, .inl g)), (q3, .inl (cJ, 1, .inr (.inl u559)))] H := hP
  have hD : va_D (fun q : Nat => s.heap.size ≤ q) [(o, .inr (1, [.int th, .int (nI w), .int (nI h), .int (nI kw), .int (nI kh), .ref b1, .ref b2, .ref b3])), (b1, .inl (cC, 4096, .inl f2)), (b2, .inl (cD, 4096, .inl g2)), (b3, .inl (cE, 4096, .inl md)), (h0, .inr (0, [.ref a1, .ref a2, .int (nI w), .int (nI h), .int (nI kw), .int (nI kh)])), (a1, .inl (cA, 4096, .inl f)), (a2, .inl (cB, 4096, .inl g)), (q3, .inl (cJ, 1, .inr (.inl u559)))] := hD
  refine lv_istore (lv' := [(5, .int r559), (0, .ref b), (1, .ref h0), (2, .ref o), (3, .ref q3), (4, .int (nI i))]) hx hb dL_law_562 hl (by decide) rfl (fun ls hl => ?_)
  refine lv_aload_n hx hb dL_law_564 rfl (lv_at hl 3 rfl) ?_
  refine lv_aload_n hx hb dL_law_565 rfl (lv_at hl 1 rfl) ?_
  refine lv_iload hx hb dL_law_566 (lv_at hl 5 rfl) ?_
  refine lv_iconst (v := nI 1) hx hb dL_law_568 (by decide +kernel) ?_
  refine lv_iadd hx hb dL_law_569 ?_
  refine cf_top (nI_add _ _) ?_
  refine va_sld hx hb hX hbl hbA hS (by first | assumption | exact vp_in_nI (by omega) (by omega)) dL_law_570 ?_
  refine cf_top (show xs (nI (i + 1)).toNatClampNeg = xs (i + 1) by rw [nI_clamp (by omega)]) ?_
  rcases w559 with ⟨e1, hq⟩ | ⟨e1, j, hj, eq, es⟩
  · skip
    have hPc := hP.sub (ws' := [(o, .inr (1, [.int th, .int (nI w), .int (nI h), .int (nI kw), .int (nI kh), .ref b1, .ref b2, .ref b3])), (b1, .inl (cC, 4096, .inl f2)), (b2, .inl (cD, 4096, .inl g2)), (b3, .inl (cE, 4096, .inl md))]) [0, 1, 2, 3] rfl
    have hKc := hK.sub (tys' := [(cC, .int), (cD, .int), (cE, .int)]) [2, 3, 4] rfl
    have hDc := hD.sub (ws' := [(o, .inr (1, [.int th, .int (nI w), .int (nI h), .int (nI kw), .int (nI kh), .ref b1, .ref b2, .ref b3])), (b1, .inl (cC, 4096, .inl f2)), (b2, .inl (cD, 4096, .inl g2)), (b3, .inl (cE, 4096, .inl md))]) [0, 1, 2, 3] (by decide) rfl
    have hFc := va_free (wc := [(o, .inr (1, [.int th, .int (nI w), .int (nI h), .int (nI kw), .int (nI kh), .ref b1, .ref b2, .ref b3])), (b1, .inl (cC, 4096, .inl f2)), (b2, .inl (cD, 4096, .inl g2)), (b3, .inl (cE, 4096, .inl md))]) hD hS hA [0, 1, 2, 3] rfl
    refine va_calll (va_runV (As := [.int (xs (i + 1))]) (rest := []) ⟨hx, hb, hml, hown, htsY⟩ (kY1_sum_b l dC dI H.size o b1 b2 b3 cC cD cE f2 g2 md th w h kw kh (xs (i + 1)) (by omega) (by omega) hq) (cwV 1 htsY gL_law_Y1_sum rfl rfl rfl (by decide +kernel) ⟨Nat.le_of_ble_eq_true rfl, Nat.le_of_ble_eq_true rfl⟩) ⟨fun a U g mk q => by obtain ⟨q0, q1, qP, qK, qD⟩ := q; exact ⟨q0, q1, qP, va_K.moved (u := U) (U := U.calling g mk a) (Vm.Alike.refl U.vm) qK, qD⟩, va_recv hKc hPc (ci := 1) (q0 := 0) rfl rfl, fun U hU hW => ⟨rfl, by rw [hU], by rw [hU]; exact hPc, va_K.moved hW.alike hKc, hDc.weaken (fun _ _ _ _ => trivial)⟩⟩ rfl rfl hl.1 rfl (lv_room (Nat.le_of_ble_eq_true rfl)) dL_law_571 ⟨(show _ ≤ 1035 by omega), (show _ ≤ 28705 by omega)⟩) hS (fun q _ h => hFc q h) hFc (fun r571 u571 t H1 locs ht hvm w571 hB hz1 hk1 hS => ?_)
    obtain ⟨hP1, -, hD1⟩ := hB
    rw [ht] at hP1
    try dsimp only at w571
    obtain ⟨hP, hD⟩ := va_join (wr := [(h0, .inr (0, [.ref a1, .ref a2, .int (nI w), .int (nI h), .int (nI kw), .int (nI kh)])), (a1, .inl (cA, 4096, .inl f)), (a2, .inl (cB, 4096, .inl g)), (q3, .inl (cJ, 1, .inr (.inl u559)))]) (w1 := [(o, .inr (1, [.int (nI 1), .int (nI w), .int (nI h), .int (nI kw), .int (nI kh), .ref b1, .ref b2, .ref b3])), (b1, .inl (cC, 4096, .inl f2)), (b2, .inl (cD, 4096, .inl g2)), (b3, .inl (cE, 4096, .inl md))]) hP hD [0, 1, 2, 3] [4, 5, 6, 7] rfl rfl (by decide) (by decide) hk1 hFc hP1 hD1
    generalize H1 = H at hP hS ⊢
    have hP : va_P (dC, dI) vwCm [(h0, .inr (0, [.ref a1, .ref a2, .int (nI w), .int (nI h), .int (nI kw), .int (nI kh)])), (a1, .inl (cA, 4096, .inl f)), (a2, .inl (cB, 4096, .inl g)), (q3, .inl (cJ, 1, .inr (.inl u559))), (o, .inr (1, [.int (nI 1), .int (nI w), .int (nI h), .int (nI kw), .int (nI kh), .ref b1, .ref b2, .ref b3])), (b1, .inl (cC, 4096, .inl f2)), (b2, .inl (cD, 4096, .inl g2)), (b3, .inl (cE, 4096, .inl md))] H := hP
    have hD : va_D (fun q : Nat => s.heap.size ≤ q) [(h0, .inr (0, [.ref a1, .ref a2, .int (nI w), .int (nI h), .int (nI kw), .int (nI kh)])), (a1, .inl (cA, 4096, .inl f)), (a2, .inl (cB, 4096, .inl g)), (q3, .inl (cJ, 1, .inr (.inl u559))), (o, .inr (1, [.int (nI 1), .int (nI w), .int (nI h), .int (nI kw), .int (nI kh), .ref b1, .ref b2, .ref b3])), (b1, .inl (cC, 4096, .inl f2)), (b2, .inl (cD, 4096, .inl g2)), (b3, .inl (cE, 4096, .inl md))] := hD
    refine lv_lstore (lv' := [(6, .long r571), (5, .int r559), (0, .ref b), (1, .ref h0), (2, .ref o), (3, .ref q3), (4, .int (nI i))]) hx hb dL_law_574 hl (by decide) rfl (fun ls hl => ?_)
    refine lv_aload_n hx hb dL_law_576 rfl (lv_at hl 4 rfl) ?_
    have hPc := hP.sub (ws' := [(o, .inr (1, [.int (nI 1), .int (nI w), .int (nI h), .int (nI kw), .int (nI kh), .ref b1, .ref b2, .ref b3])), (b1, .inl (cC, 4096, .inl f2)), (b2, .inl (cD, 4096, .inl g2)), (b3, .inl (cE, 4096, .inl md))]) [4, 5, 6, 7] rfl
    have hKc := hK.sub (tys' := [(cC, .int), (cD, .int), (cE, .int)]) [2, 3, 4] rfl
    refine vp_callSi (W.runV (As := []) (rest := []) ⟨hx, hb, hml, hown, htsY⟩ (kY1_thrown l dC dI o b1 b2 b3 cC cD cE f2 g2 md (nI 1) w h kw kh) (cwV 0 htsY gL_law_Y1_thrown rfl rfl rfl (by decide +kernel) ⟨Nat.le_of_ble_eq_true rfl, Nat.le_of_ble_eq_true rfl⟩) ⟨fun a U g mk q => by obtain ⟨q0, qP, qK⟩ := q; exact ⟨q0, qP, va_K.moved (u := U) (U := U.calling g mk a) (Vm.Alike.refl U.vm) qK⟩, va_recv hKc hPc (ci := 1) (q0 := 0) rfl rfl, fun U hU hW => ⟨rfl, by rw [hU]; exact hPc, va_K.moved hW.alike hKc⟩⟩ rfl rfl hl.1 rfl (lv_room (Nat.le_of_ble_eq_true rfl)) dL_law_577 ⟨(show _ ≤ 1035 by omega), (show _ ≤ 28705 by omega)⟩) (fun r577 w577 => ?_)
    subst w577
    refine lv_iload hx hb dL_law_580 (lv_at hl 1 rfl) ?_
    refine lv_icmp_eq (tgt := 587) hx hb dL_law_582 (by decide) (fun c582 => ?_) (fun c582 => ?_)
    · skip
      refine lv_iload hx hb dL_law_587 (lv_at hl 1 rfl) ?_
      refine lv_if_ne (tgt := 603) hx hb dL_law_589 (by decide) (fun c589 => ?_) (fun c589 => ?_)
      · skip
        refine lv_goto (tgt := 631) hx hb dL_law_603 (by decide) ?_
        refine W.widen (k := ca + 1) (n := sl + 6) (by omega) (by omega) ?_
        exact kk f g f2 g2 md (nI 1) u559 w h kw kh H locs ls ⟨⟨hw1, hw, hh1, hh, hkw1, hkw, hkh1, hkh⟩, hag, hkg⟩ (hP.sub [0, 1, 2, 4, 5, 6, 7, 3] rfl) (hD.sub [0, 1, 2, 4, 5, 6, 7, 3] (by decide) rfl) hS (lv_sub hl [2, 3, 4, 5, 6] rfl)
      · skip
        exact absurd c589 (by rw [e1]; exact cf_11)
    · skip
      exact absurd e1.symm c582
  · skip
    refine cf_top eq ?_
    have hPc := hP.sub (ws' := [(o, .inr (1, [.int th, .int (nI w), .int (nI h), .int (nI kw), .int (nI kh), .ref b1, .ref b2, .ref b3])), (b1, .inl (cC, 4096, .inl f2)), (b2, .inl (cD, 4096, .inl g2)), (b3, .inl (cE, 4096, .inl md))]) [0, 1, 2, 3] rfl
    have hKc := hK.sub (tys' := [(cC, .int), (cD, .int), (cE, .int)]) [2, 3, 4] rfl
    have hDc := hD.sub (ws' := [(o, .inr (1, [.int th, .int (nI w), .int (nI h), .int (nI kw), .int (nI kh), .ref b1, .ref b2, .ref b3])), (b1, .inl (cC, 4096, .inl f2)), (b2, .inl (cD, 4096, .inl g2)), (b3, .inl (cE, 4096, .inl md))]) [0, 1, 2, 3] (by decide) rfl
    have hFc := va_free (wc := [(o, .inr (1, [.int th, .int (nI w), .int (nI h), .int (nI kw), .int (nI kh), .ref b1, .ref b2, .ref b3])), (b1, .inl (cC, 4096, .inl f2)), (b2, .inl (cD, 4096, .inl g2)), (b3, .inl (cE, 4096, .inl md))]) hD hS hA [0, 1, 2, 3] rfl
    refine va_calll (va_runV (As := [.int (nI j)]) (rest := []) ⟨hx, hb, hml, hown, htsY⟩ (kY1_sum_a l dC dI H.size o b1 b2 b3 cC cD cE f2 g2 md th w h kw kh j (by omega) (by omega) (by omega)) (cwV 1 htsY gL_law_Y1_sum rfl rfl rfl (by decide +kernel) ⟨Nat.le_of_ble_eq_true rfl, Nat.le_of_ble_eq_true rfl⟩) ⟨fun a U g mk q => by obtain ⟨q0, q1, qP, qK, qD⟩ := q; exact ⟨q0, q1, qP, va_K.moved (u := U) (U := U.calling g mk a) (Vm.Alike.refl U.vm) qK, qD⟩, va_recv hKc hPc (ci := 1) (q0 := 0) rfl rfl, fun U hU hW => ⟨rfl, by rw [hU], by rw [hU]; exact hPc, va_K.moved hW.alike hKc, hDc.weaken (fun _ _ _ _ => trivial)⟩⟩ rfl rfl hl.1 rfl (lv_room (Nat.le_of_ble_eq_true rfl)) dL_law_571 ⟨(show _ ≤ 1035 by omega), (show _ ≤ 28705 by omega)⟩) hS (fun q _ h => hFc q h) hFc (fun r571 u571 t H1 locs ht hvm w571 hB hz1 hk1 hS => ?_)
    obtain ⟨hP1, -, hD1⟩ := hB
    rw [ht] at hP1
    try dsimp only at w571
    obtain ⟨hP, hD⟩ := va_join (wr := [(h0, .inr (0, [.ref a1, .ref a2, .int (nI w), .int (nI h), .int (nI kw), .int (nI kh)])), (a1, .inl (cA, 4096, .inl f)), (a2, .inl (cB, 4096, .inl g)), (q3, .inl (cJ, 1, .inr (.inl u559)))]) (w1 := [(o, .inr (1, [.int (nI 0), .int (nI w), .int (nI h), .int (nI kw), .int (nI kh), .ref b1, .ref b2, .ref b3])), (b1, .inl (cC, 4096, .inl f2)), (b2, .inl (cD, 4096, .inl g2)), (b3, .inl (cE, 4096, .inl md))]) hP hD [0, 1, 2, 3] [4, 5, 6, 7] rfl rfl (by decide) (by decide) hk1 hFc hP1 hD1
    generalize H1 = H at hP hS ⊢
    have hP : va_P (dC, dI) vwCm [(h0, .inr (0, [.ref a1, .ref a2, .int (nI w), .int (nI h), .int (nI kw), .int (nI kh)])), (a1, .inl (cA, 4096, .inl f)), (a2, .inl (cB, 4096, .inl g)), (q3, .inl (cJ, 1, .inr (.inl u559))), (o, .inr (1, [.int (nI 0), .int (nI w), .int (nI h), .int (nI kw), .int (nI kh), .ref b1, .ref b2, .ref b3])), (b1, .inl (cC, 4096, .inl f2)), (b2, .inl (cD, 4096, .inl g2)), (b3, .inl (cE, 4096, .inl md))] H := hP
    have hD : va_D (fun q : Nat => s.heap.size ≤ q) [(h0, .inr (0, [.ref a1, .ref a2, .int (nI w), .int (nI h), .int (nI kw), .int (nI kh)])), (a1, .inl (cA, 4096, .inl f)), (a2, .inl (cB, 4096, .inl g)), (q3, .inl (cJ, 1, .inr (.inl u559))), (o, .inr (1, [.int (nI 0), .int (nI w), .int (nI h), .int (nI kw), .int (nI kh), .ref b1, .ref b2, .ref b3])), (b1, .inl (cC, 4096, .inl f2)), (b2, .inl (cD, 4096, .inl g2)), (b3, .inl (cE, 4096, .inl md))] := hD
    refine lv_lstore (lv' := [(6, .long r571), (5, .int r559), (0, .ref b), (1, .ref h0), (2, .ref o), (3, .ref q3), (4, .int (nI i))]) hx hb dL_law_574 hl (by decide) rfl (fun ls hl => ?_)
    refine lv_aload_n hx hb dL_law_576 rfl (lv_at hl 4 rfl) ?_
    have hPc := hP.sub (ws' := [(o, .inr (1, [.int (nI 0), .int (nI w), .int (nI h), .int (nI kw), .int (nI kh), .ref b1, .ref b2, .ref b3])), (b1, .inl (cC, 4096, .inl f2)), (b2, .inl (cD, 4096, .inl g2)), (b3, .inl (cE, 4096, .inl md))]) [4, 5, 6, 7] rfl
    have hKc := hK.sub (tys' := [(cC, .int), (cD, .int), (cE, .int)]) [2, 3, 4] rfl
    refine vp_callSi (W.runV (As := []) (rest := []) ⟨hx, hb, hml, hown, htsY⟩ (kY1_thrown l dC dI o b1 b2 b3 cC cD cE f2 g2 md (nI 0) w h kw kh) (cwV 0 htsY gL_law_Y1_thrown rfl rfl rfl (by decide +kernel) ⟨Nat.le_of_ble_eq_true rfl, Nat.le_of_ble_eq_true rfl⟩) ⟨fun a U g mk q => by obtain ⟨q0, qP, qK⟩ := q; exact ⟨q0, qP, va_K.moved (u := U) (U := U.calling g mk a) (Vm.Alike.refl U.vm) qK⟩, va_recv hKc hPc (ci := 1) (q0 := 0) rfl rfl, fun U hU hW => ⟨rfl, by rw [hU]; exact hPc, va_K.moved hW.alike hKc⟩⟩ rfl rfl hl.1 rfl (lv_room (Nat.le_of_ble_eq_true rfl)) dL_law_577 ⟨(show _ ≤ 1035 by omega), (show _ ≤ 28705 by omega)⟩) (fun r577 w577 => ?_)
    subst w577
    refine lv_iload hx hb dL_law_580 (lv_at hl 1 rfl) ?_
    refine lv_icmp_eq (tgt := 587) hx hb dL_law_582 (by decide) (fun c582 => ?_) (fun c582 => ?_)
    · skip
      refine lv_iload hx hb dL_law_587 (lv_at hl 1 rfl) ?_
      refine lv_if_ne (tgt := 603) hx hb dL_law_589 (by decide) (fun c589 => ?_) (fun c589 => ?_)
      · skip
        exact absurd (e1.trans nI_0) c589
      · skip
        refine lv_aload_n hx hb dL_law_592 rfl (lv_at hl 5 rfl) ?_
        refine lv_iconst (v := nI 0) hx hb dL_law_593 (by decide +kernel) ?_
        refine va_lald (D := (dC, dI)) hx hb hK hP 3 5 rfl rfl (i := nI 0) (vp_in_nI (by omega) (by omega)) dL_law_594 ?_
        refine cf_topl (show u559 (nI 0).toNatClampNeg = u559 0 by rw [nI_clamp (by omega)]) ?_
        refine lv_lload hx hb dL_law_595 (lv_at hl 0 rfl) ?_
        refine W.lcmp hx hb dL_law_597 ?_
        refine lv_if_eq (tgt := 603) hx hb dL_law_598 (by decide) (fun c598 => ?_) (fun c598 => ?_)
        · skip
          refine lv_goto (tgt := 631) hx hb dL_law_603 (by decide) ?_
          refine W.widen (k := ca + 1) (n := sl + 6) (by omega) (by omega) ?_
          exact kk f g f2 g2 md (nI 0) u559 w h kw kh H locs ls ⟨⟨hw1, hw, hh1, hh, hkw1, hkw, hkh1, hkh⟩, hag, hkg⟩ (hP.sub [0, 1, 2, 4, 5, 6, 7, 3] rfl) (hD.sub [0, 1, 2, 4, 5, 6, 7, 3] (by decide) rfl) hS (lv_sub hl [2, 3, 4, 5, 6] rfl)
        · skip
          exact absurd (lw_cmp0 (es.trans ((cf_su_ag hag hj).trans w571.symm))) c598
    · skip
      exact absurd e1.symm c582
set_option maxHeartbeats 4000000 in
set_option maxRecDepth 100000 in
/-- the law's case 14 -/
theorem lc_14 {p : Program} {l : Launch} {e : Env} {s : State} {m : MethodId} {below : List Frame} {meth : Method} {c : Code} {dC : Nat → ClassId} {dI : Nat → Nat → Nat} {h0 a1 a2 : Nat} {cA cB : ClassId} {o b1 b2 b3 : Nat} {cC cD cE : ClassId} {q3 : Nat} {cJ : ClassId} {b L i ca sl sa1 sa2 sa3 : Nat} {xs : Nat → Int32} (htr : l.stackTraces = false) (C0 : lw_At p s m meth c b L xs) (hL : L ≤ 2562) (hi : i + 5 ≤ L) (hca : ca + 1 ≤ 1035) (hsl : sl + 6 ≤ 28705) (hK : va_K (dC, dI) vwCm [(cA, .int), (cB, .int), (cC, .int), (cD, .int), (cE, .int), (cJ, .long)] s) (hXf : cf_Xf sa1 sa2 sa3 s) (hNc : va_Nc "java/lang/IllegalArgumentException" "java/lang/IndexOutOfBoundsException" s) (hZf : cf_Zf (fun q : Nat => s.heap.size ≤ q) s s.heap) (kk : lw_K p l e s m below meth c dC dI h0 a1 a2 cA cB o b1 b2 b3 cC cD cE q3 cJ b 631 i (ca + 1) (sl + 6)) : lw_K p l e s m below meth c dC dI h0 a1 a2 cA cB o b1 b2 b3 cC cD cE q3 cJ b 606 i ca sl := by
  obtain ⟨hx, hb, hr, hml, hown, hts, hX, hbl, hlocks, hgv⟩ := C0
  have hown : s.vm.findClass RL = some m.cls := hown
  have htsX : ∀ w ∈ wsL_law, w.before #[Value.ref b] s = true := fun w h => hts w (wsL_law_in w h)
  have htsY : ∀ w ∈ wsLy, w.before #[Value.ref b] s = true := fun w h => hts w (wsLy_in w h)
  have hA : ∀ q : Nat, s.heap.size ≤ q → (fun q : Nat => s.heap.size ≤ q) q := fun _ h => h
  have hbA : ¬ (fun q : Nat => s.heap.size ≤ q) b := Nat.not_le.mpr hbl
  intro f g f2 g2 md th fo w h kw kh H locs ls hok hP hD hS hl
  obtain ⟨⟨hw1, hw, hh1, hh, hkw1, hkw, hkh1, hkh⟩, hag, hkg⟩ := hok
  refine lv_aload_n hx hb dL_law_606 rfl (lv_at hl 1 rfl) ?_
  refine lv_aload_n hx hb dL_law_607 rfl (lv_at hl 0 rfl) ?_
  refine lv_iload hx hb dL_law_608 (lv_at hl 4 rfl) ?_
  refine lv_iconst (v := nI 1) hx hb dL_law_610 (by decide +kernel) ?_
  refine lv_iadd hx hb dL_law_611 ?_
  refine cf_top (nI_add _ _) ?_
  refine va_sld hx hb hX hbl hbA hS (by first | assumption | exact vp_in_nI (by omega) (by omega)) dL_law_612 ?_
  refine cf_top (show xs (nI (i + 1)).toNatClampNeg = xs (i + 1) by rw [nI_clamp (by omega)]) ?_
  have hPc := hP.sub (ws' := [(h0, .inr (0, [.ref a1, .ref a2, .int (nI w), .int (nI h), .int (nI kw), .int (nI kh)])), (a1, .inl (cA, 4096, .inl f)), (a2, .inl (cB, 4096, .inl g))]) [0, 1, 2] rfl
  have hKc := hK.sub (tys' := [(cA, .int), (cB, .int)]) [0, 1] rfl
  refine vp_callSi (W.runV (As := [.int (xs (i + 1))]) (rest := []) ⟨hx, hb, hml, hown, htsX⟩ (kX0_look l dC dI h0 a1 a2 cA cB f g w h kw kh (xs (i + 1)) hw hh) (cwV 1 htsX gL_law_X0_look rfl rfl rfl (by decide +kernel) ⟨Nat.le_of_ble_eq_true rfl, Nat.le_of_ble_eq_true rfl⟩) ⟨fun a U g mk q => by obtain ⟨q0, qP, qK⟩ := q; exact ⟨q0, qP, va_K.moved (u := U) (U := U.calling g mk a) (Vm.Alike.refl U.vm) qK⟩, va_recv hKc hPc (ci := 0) (q0 := 0) rfl rfl, fun U hU hW => ⟨rfl, by rw [hU]; exact hPc, va_K.moved hW.alike hKc⟩⟩ rfl rfl hl.1 rfl (lv_room (Nat.le_of_ble_eq_true rfl)) dL_law_613 ⟨(show _ ≤ 1035 by omega), (show _ ≤ 28705 by omega)⟩) (fun r613 w613 => ?_)
  refine lv_aload_n hx hb dL_law_616 rfl (lv_at hl 2 rfl) ?_
  refine lv_aload_n hx hb dL_law_617 rfl (lv_at hl 0 rfl) ?_
  refine lv_iload hx hb dL_law_618 (lv_at hl 4 rfl) ?_
  refine lv_iconst (v := nI 1) hx hb dL_law_620 (by decide +kernel) ?_
  refine lv_iadd hx hb dL_law_621 ?_
  refine cf_top (nI_add _ _) ?_
  refine va_sld hx hb hX hbl hbA hS (by first | assumption | exact vp_in_nI (by omega) (by omega)) dL_law_622 ?_
  refine cf_top (show xs (nI (i + 1)).toNatClampNeg = xs (i + 1) by rw [nI_clamp (by omega)]) ?_
  have hPc := hP.sub (ws' := [(o, .inr (1, [.int th, .int (nI w), .int (nI h), .int (nI kw), .int (nI kh), .ref b1, .ref b2, .ref b3])), (b1, .inl (cC, 4096, .inl f2)), (b2, .inl (cD, 4096, .inl g2)), (b3, .inl (cE, 4096, .inl md))]) [3, 4, 5, 6] rfl
  have hKc := hK.sub (tys' := [(cC, .int), (cD, .int), (cE, .int)]) [2, 3, 4] rfl
  have hDc := hD.sub (ws' := [(o, .inr (1, [.int th, .int (nI w), .int (nI h), .int (nI kw), .int (nI kh), .ref b1, .ref b2, .ref b3])), (b1, .inl (cC, 4096, .inl f2)), (b2, .inl (cD, 4096, .inl g2)), (b3, .inl (cE, 4096, .inl md))]) [3, 4, 5, 6] (by decide) rfl
  have hFc := va_free (wc := [(o, .inr (1, [.int th, .int (nI w), .int (nI h), .int (nI kw), .int (nI kh), .ref b1, .ref b2, .ref b3])), (b1, .inl (cC, 4096, .inl f2)), (b2, .inl (cD, 4096, .inl g2)), (b3, .inl (cE, 4096, .inl md))]) hD hS hA [3, 4, 5, 6] rfl
  refine va_calli (va_runV (As := [.int (xs (i + 1))]) (rest := [.int r613]) ⟨hx, hb, hml, hown, htsY⟩ (kY1_look l dC dI H.size o b1 b2 b3 cC cD cE f2 g2 md th w h kw kh (xs (i + 1)) (by omega) (by omega)) (cwV 1 htsY gL_law_Y1_look rfl rfl rfl (by decide +kernel) ⟨Nat.le_of_ble_eq_true rfl, Nat.le_of_ble_eq_true rfl⟩) ⟨fun a U g mk q => by obtain ⟨q0, q1, qP, qK, qD⟩ := q; exact ⟨q0, q1, qP, va_K.moved (u := U) (U := U.calling g mk a) (Vm.Alike.refl U.vm) qK, qD⟩, va_recv hKc hPc (ci := 1) (q0 := 0) rfl rfl, fun U hU hW => ⟨rfl, by rw [hU], by rw [hU]; exact hPc, va_K.moved hW.alike hKc, hDc.weaken (fun _ _ _ _ => trivial)⟩⟩ rfl rfl hl.1 rfl (lv_room (Nat.le_of_ble_eq_true rfl)) dL_law_623 ⟨(show _ ≤ 1035 by omega), (show _ ≤ 28705 by omega)⟩) hS (fun q _ h => hFc q h) hFc (fun r623 u623 t H1 locs ht hvm w623 hB hz1 hk1 hS => ?_)
  obtain ⟨hP1, -, hD1⟩ := hB
  rw [ht] at hP1
  try dsimp only at w623
  obtain ⟨hP, hD⟩ := va_join (wr := [(h0, .inr (0, [.ref a1, .ref a2, .int (nI w), .int (nI h), .int (nI kw), .int (nI kh)])), (a1, .inl (cA, 4096, .inl f)), (a2, .inl (cB, 4096, .inl g)), (q3, .inl (cJ, 1, .inr (.inl fo)))]) (w1 := [(o, .inr (1, [.int (nI 0), .int (nI w), .int (nI h), .int (nI kw), .int (nI kh), .ref b1, .ref b2, .ref b3])), (b1, .inl (cC, 4096, .inl f2)), (b2, .inl (cD, 4096, .inl g2)), (b3, .inl (cE, 4096, .inl md))]) hP hD [3, 4, 5, 6] [0, 1, 2, 7] rfl rfl (by decide) (by decide) hk1 hFc hP1 hD1
  generalize H1 = H at hP hS ⊢
  have hP : va_P (dC, dI) vwCm [(h0, .inr (0, [.ref a1, .ref a2, .int (nI w), .int (nI h), .int (nI kw), .int (nI kh)])), (a1, .inl (cA, 4096, .inl f)), (a2, .inl (cB, 4096, .inl g)), (q3, .inl (cJ, 1, .inr (.inl fo))), (o, .inr (1, [.int (nI 0), .int (nI w), .int (nI h), .int (nI kw), .int (nI kh), .ref b1, .ref b2, .ref b3])), (b1, .inl (cC, 4096, .inl f2)), (b2, .inl (cD, 4096, .inl g2)), (b3, .inl (cE, 4096, .inl md))] H := hP
  have hD : va_D (fun q : Nat => s.heap.size ≤ q) [(h0, .inr (0, [.ref a1, .ref a2, .int (nI w), .int (nI h), .int (nI kw), .int (nI kh)])), (a1, .inl (cA, 4096, .inl f)), (a2, .inl (cB, 4096, .inl g)), (q3, .inl (cJ, 1, .inr (.inl fo))), (o, .inr (1, [.int (nI 0), .int (nI w), .int (nI h), .int (nI kw), .int (nI kh), .ref b1, .ref b2, .ref b3])), (b1, .inl (cC, 4096, .inl f2)), (b2, .inl (cD, 4096, .inl g2)), (b3, .inl (cE, 4096, .inl md))] := hD
  refine lv_icmp_eq (tgt := 631) hx hb dL_law_626 (by decide) (fun c626 => ?_) (fun c626 => ?_)
  · skip
    refine W.widen (k := ca + 1) (n := sl + 6) (by omega) (by omega) ?_
    exact kk f g f2 g2 md (nI 0) fo w h kw kh H locs ls ⟨⟨hw1, hw, hh1, hh, hkw1, hkw, hkh1, hkh⟩, hag, hkg⟩ (hP.sub [0, 1, 2, 4, 5, 6, 7, 3] rfl) (hD.sub [0, 1, 2, 4, 5, 6, 7, 3] (by decide) rfl) hS (lv_sub hl [0, 1, 2, 3, 4] rfl)
  · skip
    exact absurd (w613.trans ((cf_lk_ag hag _).trans w623.symm)) c626
