set_option maxHeartbeats 4000000 in
set_option maxRecDepth 100000 in
/-- the law's case 6 -/
theorem lc_6 {p : Program} {l : Launch} {e : Env} {s : State} {m : MethodId} {below : List Frame} {meth : Method} {c : Code} {dC : Nat → ClassId} {dI : Nat → Nat → Nat} {h0 a1 a2 : Nat} {cA cB : ClassId} {o b1 b2 b3 : Nat} {cC cD cE : ClassId} {q3 : Nat} {cJ : ClassId} {b L i ca sl sa1 sa2 sa3 : Nat} {xs : Nat → Int32} (htr : l.stackTraces = false) (C0 : lw_At p s m meth c b L xs) (hL : L ≤ 2562) (hi : i + 5 ≤ L) (hca : ca + 1 ≤ 1035) (hsl : sl + 6 ≤ 28705) (hK : va_K (dC, dI) vwCm [(cA, .int), (cB, .int), (cC, .int), (cD, .int), (cE, .int), (cJ, .long)] s) (hXf : cf_Xf sa1 sa2 sa3 s) (hNc : va_Nc "java/lang/IllegalArgumentException" "java/lang/IndexOutOfBoundsException" s) (hZf : cf_Zf (fun q : Nat => s.heap.size ≤ q) s s.heap) (kk : lw_K p l e s m below meth c dC dI h0 a1 a2 cA cB o b1 b2 b3 cC cD cE q3 cJ b 631 i (ca + 1) (sl + 6)) : lw_K p l e s m below meth c dC dI h0 a1 a2 cA cB o b1 b2 b3 cC cD cE q3 cJ b 283 i ca sl := by
  obtain ⟨hx, hb, hr, hml, hown, hts, hX, hbl, hlocks, hgv⟩ := C0
  have hown : s.vm.findClass RL = some m.cls := hown
  have htsX : ∀ w ∈ wsL_law, w.before #[Value.ref b] s = true := fun w h => hts w (wsL_law_in w h)
  have htsY : ∀ w ∈ wsLy, w.before #[Value.ref b] s = true := fun w h => hts w (wsLy_in w h)
  have hA : ∀ q : Nat, s.heap.size ≤ q → (fun q : Nat => s.heap.size ≤ q) q := fun _ h => h
  have hbA : ¬ (fun q : Nat => s.heap.size ≤ q) b := Nat.not_le.mpr hbl
  intro f g f2 g2 md th fo w h kw kh H locs ls hok hP hD hS hl
  obtain ⟨⟨hw1, hw, hh1, hh, hkw1, hkw, hkh1, hkh⟩, hag, hkg⟩ := hok
  refine lv_aload_n hx hb dL_law_283 rfl (lv_at hl 1 rfl) ?_
  refine lv_aload_n hx hb dL_law_284 rfl (lv_at hl 0 rfl) ?_
  refine lv_iload hx hb dL_law_285 (lv_at hl 4 rfl) ?_
  refine lv_iconst (v := nI 1) hx hb dL_law_287 (by decide +kernel) ?_
  refine lv_iadd hx hb dL_law_288 ?_
  refine cf_top (nI_add _ _) ?_
  refine va_sld hx hb hX hbl hbA hS (by first | assumption | exact vp_in_nI (by omega) (by omega)) dL_law_289 ?_
  refine cf_top (show xs (nI (i + 1)).toNatClampNeg = xs (i + 1) by rw [nI_clamp (by omega)]) ?_
  refine lv_aload_n hx hb dL_law_290 rfl (lv_at hl 0 rfl) ?_
  refine lv_iload hx hb dL_law_291 (lv_at hl 4 rfl) ?_
  refine lv_iconst (v := nI 2) hx hb dL_law_293 (by decide +kernel) ?_
  refine lv_iadd hx hb dL_law_294 ?_
  refine cf_top (nI_add _ _) ?_
  refine va_sld hx hb hX hbl hbA hS (by first | assumption | exact vp_in_nI (by omega) (by omega)) dL_law_295 ?_
  refine cf_top (show xs (nI (i + 2)).toNatClampNeg = xs (i + 2) by rw [nI_clamp (by omega)]) ?_
  refine lv_aload_n hx hb dL_law_296 rfl (lv_at hl 0 rfl) ?_
  refine lv_iload hx hb dL_law_297 (lv_at hl 4 rfl) ?_
  refine lv_iconst (v := nI 3) hx hb dL_law_299 (by decide +kernel) ?_
  refine lv_iadd hx hb dL_law_300 ?_
  refine cf_top (nI_add _ _) ?_
  refine va_sld hx hb hX hbl hbA hS (by first | assumption | exact vp_in_nI (by omega) (by omega)) dL_law_301 ?_
  refine cf_top (show xs (nI (i + 3)).toNatClampNeg = xs (i + 3) by rw [nI_clamp (by omega)]) ?_
  refine lv_aload_n hx hb dL_law_302 rfl (lv_at hl 0 rfl) ?_
  refine lv_iload hx hb dL_law_303 (lv_at hl 4 rfl) ?_
  refine lv_iconst (v := nI 4) hx hb dL_law_305 (by decide +kernel) ?_
  refine lv_iadd hx hb dL_law_306 ?_
  refine cf_top (nI_add _ _) ?_
  refine va_sld hx hb hX hbl hbA hS (by first | assumption | exact vp_in_nI (by omega) (by omega)) dL_law_307 ?_
  refine cf_top (show xs (nI (i + 4)).toNatClampNeg = xs (i + 4) by rw [nI_clamp (by omega)]) ?_
  have hPc := hP.sub (ws' := [(h0, .inr (0, [.ref a1, .ref a2, .int (nI w), .int (nI h), .int (nI kw), .int (nI kh)])), (a1, .inl (cA, 4096, .inl f)), (a2, .inl (cB, 4096, .inl g))]) [0, 1, 2] rfl
  have hKc := hK.sub (tys' := [(cA, .int), (cB, .int)]) [0, 1] rfl
  have hDc := hD.sub (ws' := [(h0, .inr (0, [.ref a1, .ref a2, .int (nI w), .int (nI h), .int (nI kw), .int (nI kh)])), (a1, .inl (cA, 4096, .inl f)), (a2, .inl (cB, 4096, .inl g))]) [0, 1, 2] (by decide) rfl
  have hFc := va_free (wc := [(h0, .inr (0, [.ref a1, .ref a2, .int (nI w), .int (nI h), .int (nI kw), .int (nI kh)])), (a1, .inl (cA, 4096, .inl f)), (a2, .inl (cB, 4096, .inl g))]) hD hS hA [0, 1, 2] rfl
  refine va_calli (va_runV (As := [.int (xs (i + 1)), .int (xs (i + 2)), .int (xs (i + 3)), .int (xs (i + 4))]) (rest := []) ⟨hx, hb, hml, hown, htsX⟩ (kX0_crop l dC dI H.size h0 a1 a2 cA cB f g w h kw kh (xs (i + 1)) (xs (i + 2)) (xs (i + 3)) (xs (i + 4)) (by omega) (by omega)) (cwV 4 htsX gL_law_X0_crop rfl rfl rfl (by decide +kernel) ⟨Nat.le_of_ble_eq_true rfl, Nat.le_of_ble_eq_true rfl⟩) ⟨fun a U g mk q => by obtain ⟨q0, q1, qP, qK, qD⟩ := q; exact ⟨q0, q1, qP, va_K.moved (u := U) (U := U.calling g mk a) (Vm.Alike.refl U.vm) qK, qD⟩, va_recv hKc hPc (ci := 0) (q0 := 0) rfl rfl, fun U hU hW => ⟨rfl, by rw [hU], by rw [hU]; exact hPc, va_K.moved hW.alike hKc, hDc.weaken (fun _ _ _ _ => trivial)⟩⟩ rfl rfl hl.1 rfl (lv_room (Nat.le_of_ble_eq_true rfl)) dL_law_308 ⟨(show _ ≤ 1035 by omega), (show _ ≤ 28705 by omega)⟩) hS (fun q _ h => hFc q h) hFc (fun r308 u308 t H1 locs ht hvm w308 hB hz1 hk1 hS => ?_)
  obtain ⟨hP1, -, hD1⟩ := hB
  rw [ht] at hP1
  try dsimp only at w308
  obtain ⟨hP, hD⟩ := va_join (wr := [(o, .inr (1, [.int th, .int (nI w), .int (nI h), .int (nI kw), .int (nI kh), .ref b1, .ref b2, .ref b3])), (b1, .inl (cC, 4096, .inl f2)), (b2, .inl (cD, 4096, .inl g2)), (b3, .inl (cE, 4096, .inl md)), (q3, .inl (cJ, 1, .inr (.inl fo)))]) (w1 := [(h0, .inr (0, [.ref a1, .ref a2, .int (nI u308.2.1), .int (nI u308.2.2), .int (nI kw), .int (nI kh)])), (a1, .inl (cA, 4096, .inl u308.1)), (a2, .inl (cB, 4096, .inl g))]) hP hD [0, 1, 2] [3, 4, 5, 6, 7] rfl rfl (by decide) (by decide) hk1 hFc hP1 hD1
  generalize H1 = H at hP hS ⊢
  have hP : va_P (dC, dI) vwCm [(o, .inr (1, [.int th, .int (nI w), .int (nI h), .int (nI kw), .int (nI kh), .ref b1, .ref b2, .ref b3])), (b1, .inl (cC, 4096, .inl f2)), (b2, .inl (cD, 4096, .inl g2)), (b3, .inl (cE, 4096, .inl md)), (q3, .inl (cJ, 1, .inr (.inl fo))), (h0, .inr (0, [.ref a1, .ref a2, .int (nI u308.2.1), .int (nI u308.2.2), .int (nI kw), .int (nI kh)])), (a1, .inl (cA, 4096, .inl u308.1)), (a2, .inl (cB, 4096, .inl g))] H := hP
  have hD : va_D (fun q : Nat => s.heap.size ≤ q) [(o, .inr (1, [.int th, .int (nI w), .int (nI h), .int (nI kw), .int (nI kh), .ref b1, .ref b2, .ref b3])), (b1, .inl (cC, 4096, .inl f2)), (b2, .inl (cD, 4096, .inl g2)), (b3, .inl (cE, 4096, .inl md)), (q3, .inl (cJ, 1, .inr (.inl fo))), (h0, .inr (0, [.ref a1, .ref a2, .int (nI u308.2.1), .int (nI u308.2.2), .int (nI kw), .int (nI kh)])), (a1, .inl (cA, 4096, .inl u308.1)), (a2, .inl (cB, 4096, .inl g))] := hD
  refine lv_aload_n hx hb dL_law_311 rfl (lv_at hl 2 rfl) ?_
  refine lv_aload_n hx hb dL_law_312 rfl (lv_at hl 0 rfl) ?_
  refine lv_iload hx hb dL_law_313 (lv_at hl 4 rfl) ?_
  refine lv_iconst (v := nI 1) hx hb dL_law_315 (by decide +kernel) ?_
  refine lv_iadd hx hb dL_law_316 ?_
  refine cf_top (nI_add _ _) ?_
  refine va_sld hx hb hX hbl hbA hS (by first | assumption | exact vp_in_nI (by omega) (by omega)) dL_law_317 ?_
  refine cf_top (show xs (nI (i + 1)).toNatClampNeg = xs (i + 1) by rw [nI_clamp (by omega)]) ?_
  refine lv_aload_n hx hb dL_law_318 rfl (lv_at hl 0 rfl) ?_
  refine lv_iload hx hb dL_law_319 (lv_at hl 4 rfl) ?_
  refine lv_iconst (v := nI 2) hx hb dL_law_321 (by decide +kernel) ?_
  refine lv_iadd hx hb dL_law_322 ?_
  refine cf_top (nI_add _ _) ?_
  refine va_sld hx hb hX hbl hbA hS (by first | assumption | exact vp_in_nI (by omega) (by omega)) dL_law_323 ?_
  refine cf_top (show xs (nI (i + 2)).toNatClampNeg = xs (i + 2) by rw [nI_clamp (by omega)]) ?_
  refine lv_aload_n hx hb dL_law_324 rfl (lv_at hl 0 rfl) ?_
  refine lv_iload hx hb dL_law_325 (lv_at hl 4 rfl) ?_
  refine lv_iconst (v := nI 3) hx hb dL_law_327 (by decide +kernel) ?_
  refine lv_iadd hx hb dL_law_328 ?_
  refine cf_top (nI_add _ _) ?_
  refine va_sld hx hb hX hbl hbA hS (by first | assumption | exact vp_in_nI (by omega) (by omega)) dL_law_329 ?_
  refine cf_top (show xs (nI (i + 3)).toNatClampNeg = xs (i + 3) by rw [nI_clamp (by omega)]) ?_
  refine lv_aload_n hx hb dL_law_330 rfl (lv_at hl 0 rfl) ?_
  refine lv_iload hx hb dL_law_331 (lv_at hl 4 rfl) ?_
  refine lv_iconst (v := nI 4) hx hb dL_law_333 (by decide +kernel) ?_
  refine lv_iadd hx hb dL_law_334 ?_
  refine cf_top (nI_add _ _) ?_
  refine va_sld hx hb hX hbl hbA hS (by first | assumption | exact vp_in_nI (by omega) (by omega)) dL_law_335 ?_
  refine cf_top (show xs (nI (i + 4)).toNatClampNeg = xs (i + 4) by rw [nI_clamp (by omega)]) ?_
  have hPc := hP.sub (ws' := [(o, .inr (1, [.int th, .int (nI w), .int (nI h), .int (nI kw), .int (nI kh), .ref b1, .ref b2, .ref b3])), (b1, .inl (cC, 4096, .inl f2)), (b2, .inl (cD, 4096, .inl g2)), (b3, .inl (cE, 4096, .inl md))]) [0, 1, 2, 3] rfl
  have hKc := hK.sub (tys' := [(cC, .int), (cD, .int), (cE, .int)]) [2, 3, 4] rfl
  have hDc := hD.sub (ws' := [(o, .inr (1, [.int th, .int (nI w), .int (nI h), .int (nI kw), .int (nI kh), .ref b1, .ref b2, .ref b3])), (b1, .inl (cC, 4096, .inl f2)), (b2, .inl (cD, 4096, .inl g2)), (b3, .inl (cE, 4096, .inl md))]) [0, 1, 2, 3] (by decide) rfl
  have hFc := va_free (wc := [(o, .inr (1, [.int th, .int (nI w), .int (nI h), .int (nI kw), .int (nI kh), .ref b1, .ref b2, .ref b3])), (b1, .inl (cC, 4096, .inl f2)), (b2, .inl (cD, 4096, .inl g2)), (b3, .inl (cE, 4096, .inl md))]) hD hS hA [0, 1, 2, 3] rfl
  refine va_calli (va_runV (As := [.int (xs (i + 1)), .int (xs (i + 2)), .int (xs (i + 3)), .int (xs (i + 4))]) (rest := [.int r308]) ⟨hx, hb, hml, hown, htsY⟩ (kY1_crop l dC dI H.size o b1 b2 b3 cC cD cE f2 g2 md th w h kw kh (xs (i + 1)) (xs (i + 2)) (xs (i + 3)) (xs (i + 4)) (by omega) (by omega)) (cwV 4 htsY gL_law_Y1_crop rfl rfl rfl (by decide +kernel) ⟨Nat.le_of_ble_eq_true rfl, Nat.le_of_ble_eq_true rfl⟩) ⟨fun a U g mk q => by obtain ⟨q0, q1, qP, qK, qD⟩ := q; exact ⟨q0, q1, qP, va_K.moved (u := U) (U := U.calling g mk a) (Vm.Alike.refl U.vm) qK, qD⟩, va_recv hKc hPc (ci := 1) (q0 := 0) rfl rfl, fun U hU hW => ⟨rfl, by rw [hU], by rw [hU]; exact hPc, va_K.moved hW.alike hKc, hDc.weaken (fun _ _ _ _ => trivial)⟩⟩ rfl rfl hl.1 rfl (lv_room (Nat.le_of_ble_eq_true rfl)) dL_law_336 ⟨(show _ ≤ 1035 by omega), (show _ ≤ 28705 by omega)⟩) hS (fun q _ h => hFc q h) hFc (fun r336 u336 t H1 locs ht hvm w336 hB hz1 hk1 hS => ?_)
  obtain ⟨hP1, -, hD1⟩ := hB
  rw [ht] at hP1
  try dsimp only at w336
  obtain ⟨hP, hD⟩ := va_join (wr := [(q3, .inl (cJ, 1, .inr (.inl fo))), (h0, .inr (0, [.ref a1, .ref a2, .int (nI u308.2.1), .int (nI u308.2.2), .int (nI kw), .int (nI kh)])), (a1, .inl (cA, 4096, .inl u308.1)), (a2, .inl (cB, 4096, .inl g))]) (w1 := [(o, .inr (1, [.int (nI 0), .int (nI u336.2.2.1), .int (nI u336.2.2.2), .int (nI kw), .int (nI kh), .ref b1, .ref b2, .ref b3])), (b1, .inl (cC, 4096, .inl u336.1)), (b2, .inl (cD, 4096, .inl g2)), (b3, .inl (cE, 4096, .inl u336.2.1))]) hP hD [0, 1, 2, 3] [4, 5, 6, 7] rfl rfl (by decide) (by decide) hk1 hFc hP1 hD1
  generalize H1 = H at hP hS ⊢
  have hP : va_P (dC, dI) vwCm [(q3, .inl (cJ, 1, .inr (.inl fo))), (h0, .inr (0, [.ref a1, .ref a2, .int (nI u308.2.1), .int (nI u308.2.2), .int (nI kw), .int (nI kh)])), (a1, .inl (cA, 4096, .inl u308.1)), (a2, .inl (cB, 4096, .inl g)), (o, .inr (1, [.int (nI 0), .int (nI u336.2.2.1), .int (nI u336.2.2.2), .int (nI kw), .int (nI kh), .ref b1, .ref b2, .ref b3])), (b1, .inl (cC, 4096, .inl u336.1)), (b2, .inl (cD, 4096, .inl g2)), (b3, .inl (cE, 4096, .inl u336.2.1))] H := hP
  have hD : va_D (fun q : Nat => s.heap.size ≤ q) [(q3, .inl (cJ, 1, .inr (.inl fo))), (h0, .inr (0, [.ref a1, .ref a2, .int (nI u308.2.1), .int (nI u308.2.2), .int (nI kw), .int (nI kh)])), (a1, .inl (cA, 4096, .inl u308.1)), (a2, .inl (cB, 4096, .inl g)), (o, .inr (1, [.int (nI 0), .int (nI u336.2.2.1), .int (nI u336.2.2.2), .int (nI kw), .int (nI kh), .ref b1, .ref b2, .ref b3])), (b1, .inl (cC, 4096, .inl u336.1)), (b2, .inl (cD, 4096, .inl g2)), (b3, .inl (cE, 4096, .inl u336.2.1))] := hD
  rcases w308 with ⟨e1, e2, e3, e4, e5⟩ | ⟨e1, X, Y, hok1, ag1⟩
  · skip
    rcases w336 with ⟨d1, d2, d3, d4, d5⟩ | ⟨d1, X2, Y2, hok2, ag2⟩
    · skip
      rw [e3, e4, e5, d3, d4, d5] at hP hD
      have hP : va_P (dC, dI) vwCm [(q3, .inl (cJ, 1, .inr (.inl fo))), (h0, .inr (0, [.ref a1, .ref a2, .int (nI w), .int (nI h), .int (nI kw), .int (nI kh)])), (a1, .inl (cA, 4096, .inl f)), (a2, .inl (cB, 4096, .inl g)), (o, .inr (1, [.int (nI 0), .int (nI w), .int (nI h), .int (nI kw), .int (nI kh), .ref b1, .ref b2, .ref b3])), (b1, .inl (cC, 4096, .inl f2)), (b2, .inl (cD, 4096, .inl g2)), (b3, .inl (cE, 4096, .inl u336.2.1))] H := hP
      have hD : va_D (fun q : Nat => s.heap.size ≤ q) [(q3, .inl (cJ, 1, .inr (.inl fo))), (h0, .inr (0, [.ref a1, .ref a2, .int (nI w), .int (nI h), .int (nI kw), .int (nI kh)])), (a1, .inl (cA, 4096, .inl f)), (a2, .inl (cB, 4096, .inl g)), (o, .inr (1, [.int (nI 0), .int (nI w), .int (nI h), .int (nI kw), .int (nI kh), .ref b1, .ref b2, .ref b3])), (b1, .inl (cC, 4096, .inl f2)), (b2, .inl (cD, 4096, .inl g2)), (b3, .inl (cE, 4096, .inl u336.2.1))] := hD
      refine lv_icmp_eq (tgt := 631) hx hb dL_law_339 (by decide) (fun c339 => ?_) (fun c339 => ?_)
      · skip
        refine W.widen (k := ca + 1) (n := sl + 6) (by omega) (by omega) ?_
        exact kk f g f2 g2 u336.2.1 (nI 0) fo w h kw kh H locs ls ⟨⟨hw1, hw, hh1, hh, hkw1, hkw, hkh1, hkh⟩, hag, hkg⟩ (hP.sub [1, 2, 3, 4, 5, 6, 7, 0] rfl) (hD.sub [1, 2, 3, 4, 5, 6, 7, 0] (by decide) rfl) hS (lv_sub hl [0, 1, 2, 3, 4] rfl)
      · skip
        exact absurd (e1.trans d1.symm) c339
    · skip
      exact absurd ⟨X2, Y2, _, _, hok2⟩ e2
  · skip
    rcases w336 with ⟨d1, d2, d3, d4, d5⟩ | ⟨d1, X2, Y2, hok2, ag2⟩
    · skip
      exact absurd ⟨X, Y, _, _, hok1⟩ d2
    · skip
      obtain ⟨x1, x2, q1, q2⟩ := cf_ok_u hw hh hok1 hok2
      subst x1
      subst x2
      rw [← q1, ← q2] at hP hD ag2
      obtain ⟨o1, o2, o3, o4, o5, o6, o7, o8⟩ := hok1
      have hP : va_P (dC, dI) vwCm [(q3, .inl (cJ, 1, .inr (.inl fo))), (h0, .inr (0, [.ref a1, .ref a2, .int (nI u308.2.1), .int (nI u308.2.2), .int (nI kw), .int (nI kh)])), (a1, .inl (cA, 4096, .inl u308.1)), (a2, .inl (cB, 4096, .inl g)), (o, .inr (1, [.int (nI 0), .int (nI u308.2.1), .int (nI u308.2.2), .int (nI kw), .int (nI kh), .ref b1, .ref b2, .ref b3])), (b1, .inl (cC, 4096, .inl u336.1)), (b2, .inl (cD, 4096, .inl g2)), (b3, .inl (cE, 4096, .inl u336.2.1))] H := hP
      have hD : va_D (fun q : Nat => s.heap.size ≤ q) [(q3, .inl (cJ, 1, .inr (.inl fo))), (h0, .inr (0, [.ref a1, .ref a2, .int (nI u308.2.1), .int (nI u308.2.2), .int (nI kw), .int (nI kh)])), (a1, .inl (cA, 4096, .inl u308.1)), (a2, .inl (cB, 4096, .inl g)), (o, .inr (1, [.int (nI 0), .int (nI u308.2.1), .int (nI u308.2.2), .int (nI kw), .int (nI kh), .ref b1, .ref b2, .ref b3])), (b1, .inl (cC, 4096, .inl u336.1)), (b2, .inl (cD, 4096, .inl g2)), (b3, .inl (cE, 4096, .inl u336.2.1))] := hD
      refine lv_icmp_eq (tgt := 631) hx hb dL_law_339 (by decide) (fun c339 => ?_) (fun c339 => ?_)
      · skip
        refine W.widen (k := ca + 1) (n := sl + 6) (by omega) (by omega) ?_
        exact kk u308.1 g u336.1 g2 u336.2.1 (nI 0) fo u308.2.1 u308.2.2 kw kh H locs ls ⟨⟨o7, by omega, o8, by omega, hkw1, hkw, hkh1, hkh⟩, (ag1.tr ((cf_cr_ag hag o5 o6).tr ag2.sy)), hkg⟩ (hP.sub [1, 2, 3, 4, 5, 6, 7, 0] rfl) (hD.sub [1, 2, 3, 4, 5, 6, 7, 0] (by decide) rfl) hS (lv_sub hl [0, 1, 2, 3, 4] rfl)
      · skip
        exact absurd (e1.trans d1.symm) c339
set_option maxHeartbeats 4000000 in
set_option maxRecDepth 100000 in
/-- the law's case 7 -/
theorem lc_7 {p : Program} {l : Launch} {e : Env} {s : State} {m : MethodId} {below : List Frame} {meth : Method} {c : Code} {dC : Nat → ClassId} {dI : Nat → Nat → Nat} {h0 a1 a2 : Nat} {cA cB : ClassId} {o b1 b2 b3 : Nat} {cC cD cE : ClassId} {q3 : Nat} {cJ : ClassId} {b L i ca sl sa1 sa2 sa3 : Nat} {xs : Nat → Int32} (htr : l.stackTraces = false) (C0 : lw_At p s m meth c b L xs) (hL : L ≤ 2562) (hi : i + 5 ≤ L) (hca : ca + 1 ≤ 1035) (hsl : sl + 6 ≤ 28705) (hK : va_K (dC, dI) vwCm [(cA, .int), (cB, .int), (cC, .int), (cD, .int), (cE, .int), (cJ, .long)] s) (hXf : cf_Xf sa1 sa2 sa3 s) (hNc : va_Nc "java/lang/IllegalArgumentException" "java/lang/IndexOutOfBoundsException" s) (hZf : cf_Zf (fun q : Nat => s.heap.size ≤ q) s s.heap) (kk : lw_K p l e s m below meth c dC dI h0 a1 a2 cA cB o b1 b2 b3 cC cD cE q3 cJ b 631 i (ca + 1) (sl + 6)) : lw_K p l e s m below meth c dC dI h0 a1 a2 cA cB o b1 b2 b3 cC cD cE q3 cJ b 344 i ca sl := by
  obtain ⟨hx, hb, hr, hml, hown, hts, hX, hbl, hlocks, hgv⟩ := C0
  have hown : s.vm.findClass RL = some m.cls := hown
  have htsX : ∀ w ∈ wsL_law, w.before #[Value.ref b] s = true := fun w h => hts w (wsL_law_in w h)
  have htsY : ∀ w ∈ wsLy, w.before #[Value.ref b] s = true := fun w h => hts w (wsLy_in w h)
  have hA : ∀ q : Nat, s.heap.size ≤ q → (fun q : Nat => s.heap.size ≤ q) q := fun _ h => h
  have hbA : ¬ (fun q : Nat => s.heap.size ≤ q) b := Nat.not_le.mpr hbl
  intro f g f2 g2 md th fo w h kw kh H locs ls hok hP hD hS hl
  obtain ⟨⟨hw1, hw, hh1, hh, hkw1, hkw, hkh1, hkh⟩, hag, hkg⟩ := hok
  refine lv_aload_n hx hb dL_law_344 rfl (lv_at hl 1 rfl) ?_
  refine lv_aload_n hx hb dL_law_345 rfl (lv_at hl 0 rfl) ?_
  refine lv_iload hx hb dL_law_346 (lv_at hl 4 rfl) ?_
  refine lv_iconst (v := nI 1) hx hb dL_law_348 (by decide +kernel) ?_
  refine lv_iadd hx hb dL_law_349 ?_
  refine cf_top (nI_add _ _) ?_
  refine va_sld hx hb hX hbl hbA hS (by first | assumption | exact vp_in_nI (by omega) (by omega)) dL_law_350 ?_
  refine cf_top (show xs (nI (i + 1)).toNatClampNeg = xs (i + 1) by rw [nI_clamp (by omega)]) ?_
  refine lv_aload_n hx hb dL_law_351 rfl (lv_at hl 0 rfl) ?_
  refine lv_iload hx hb dL_law_352 (lv_at hl 4 rfl) ?_
  refine lv_iconst (v := nI 2) hx hb dL_law_354 (by decide +kernel) ?_
  refine lv_iadd hx hb dL_law_355 ?_
  refine cf_top (nI_add _ _) ?_
  refine va_sld hx hb hX hbl hbA hS (by first | assumption | exact vp_in_nI (by omega) (by omega)) dL_law_356 ?_
  refine cf_top (show xs (nI (i + 2)).toNatClampNeg = xs (i + 2) by rw [nI_clamp (by omega)]) ?_
  refine lv_aload_n hx hb dL_law_357 rfl (lv_at hl 0 rfl) ?_
  refine lv_iload hx hb dL_law_358 (lv_at hl 4 rfl) ?_
  refine lv_iconst (v := nI 3) hx hb dL_law_360 (by decide +kernel) ?_
  refine lv_iadd hx hb dL_law_361 ?_
  refine cf_top (nI_add _ _) ?_
  refine va_sld hx hb hX hbl hbA hS (by first | assumption | exact vp_in_nI (by omega) (by omega)) dL_law_362 ?_
  refine cf_top (show xs (nI (i + 3)).toNatClampNeg = xs (i + 3) by rw [nI_clamp (by omega)]) ?_
  refine lv_aload_n hx hb dL_law_363 rfl (lv_at hl 0 rfl) ?_
  refine lv_iload hx hb dL_law_364 (lv_at hl 4 rfl) ?_
  refine lv_iconst (v := nI 4) hx hb dL_law_366 (by decide +kernel) ?_
  refine lv_iadd hx hb dL_law_367 ?_
  refine cf_top (nI_add _ _) ?_
  refine va_sld hx hb hX hbl hbA hS (by first | assumption | exact vp_in_nI (by omega) (by omega)) dL_law_368 ?_
  refine cf_top (show xs (nI (i + 4)).toNatClampNeg = xs (i + 4) by rw [nI_clamp (by omega)]) ?_
  have hPc := hP.sub (ws' := [(h0, .inr (0, [.ref a1, .ref a2, .int (nI w), .int (nI h), .int (nI kw), .int (nI kh)])), (a1, .inl (cA, 4096, .inl f)), (a2, .inl (cB, 4096, .inl g))]) [0, 1, 2] rfl
  have hKc := hK.sub (tys' := [(cA, .int), (cB, .int)]) [0, 1] rfl
  have hDc := hD.sub (ws' := [(h0, .inr (0, [.ref a1, .ref a2, .int (nI w), .int (nI h), .int (nI kw), .int (nI kh)])), (a1, .inl (cA, 4096, .inl f)), (a2, .inl (cB, 4096, .inl g))]) [0, 1, 2] (by decide) rfl
  have hFc := va_free (wc := [(h0, .inr (0, [.ref a1, .ref a2, .int (nI w), .int (nI h), .int (nI kw), .int (nI kh)])), (a1, .inl (cA, 4096, .inl f)), (a2, .inl (cB, 4096, .inl g))]) hD hS hA [0, 1, 2] rfl
  refine va_calli (va_runV (As := [.int (xs (i + 1)), .int (xs (i + 2)), .int (xs (i + 3)), .int (xs (i + 4))]) (rest := []) ⟨hx, hb, hml, hown, htsX⟩ (kX0_swap l dC dI H.size h0 a1 a2 cA cB f g w h kw kh (xs (i + 1)) (xs (i + 2)) (xs (i + 3)) (xs (i + 4)) hw hh) (cwV 4 htsX gL_law_X0_swap rfl rfl rfl (by decide +kernel) ⟨Nat.le_of_ble_eq_true rfl, Nat.le_of_ble_eq_true rfl⟩) ⟨fun a U g mk q => by obtain ⟨q0, q1, qP, qK, qD⟩ := q; exact ⟨q0, q1, qP, va_K.moved (u := U) (U := U.calling g mk a) (Vm.Alike.refl U.vm) qK, qD⟩, va_recv hKc hPc (ci := 0) (q0 := 0) rfl rfl, fun U hU hW => ⟨rfl, by rw [hU], by rw [hU]; exact hPc, va_K.moved hW.alike hKc, hDc.weaken (fun _ _ _ _ => trivial)⟩⟩ rfl rfl hl.1 rfl (lv_room (Nat.le_of_ble_eq_true rfl)) dL_law_369 ⟨(show _ ≤ 1035 by omega), (show _ ≤ 28705 by omega)⟩) hS (fun q _ h => hFc q h) hFc (fun r369 u369 t H1 locs ht hvm w369 hB hz1 hk1 hS => ?_)
  obtain ⟨hP1, -, hD1⟩ := hB
  rw [ht] at hP1
  try dsimp only at w369
  obtain ⟨hP, hD⟩ := va_join (wr := [(o, .inr (1, [.int th, .int (nI w), .int (nI h), .int (nI kw), .int (nI kh), .ref b1, .ref b2, .ref b3])), (b1, .inl (cC, 4096, .inl f2)), (b2, .inl (cD, 4096, .inl g2)), (b3, .inl (cE, 4096, .inl md)), (q3, .inl (cJ, 1, .inr (.inl fo)))]) (w1 := [(h0, .inr (0, [.ref a1, .ref a2, .int (nI w), .int (nI h), .int (nI kw), .int (nI kh)])), (a1, .inl (cA, 4096, .inl u369)), (a2, .inl (cB, 4096, .inl g))]) hP hD [0, 1, 2] [3, 4, 5, 6, 7] rfl rfl (by decide) (by decide) hk1 hFc hP1 hD1
  generalize H1 = H at hP hS ⊢
  have hP : va_P (dC, dI) vwCm [(o, .inr (1, [.int th, .int (nI w), .int (nI h), .int (nI kw), .int (nI kh), .ref b1, .ref b2, .ref b3])), (b1, .inl (cC, 4096, .inl f2)), (b2, .inl (cD, 4096, .inl g2)), (b3, .inl (cE, 4096, .inl md)), (q3, .inl (cJ, 1, .inr (.inl fo))), (h0, .inr (0, [.ref a1, .ref a2, .int (nI w), .int (nI h), .int (nI kw), .int (nI kh)])), (a1, .inl (cA, 4096, .inl u369)), (a2, .inl (cB, 4096, .inl g))] H := hP
  have hD : va_D (fun q : Nat => s.heap.size ≤ q) [(o, .inr (1, [.int th, .int (nI w), .int (nI h), .int (nI kw), .int (nI kh), .ref b1, .ref b2, .ref b3])), (b1, .inl (cC, 4096, .inl f2)), (b2, .inl (cD, 4096, .inl g2)), (b3, .inl (cE, 4096, .inl md)), (q3, .inl (cJ, 1, .inr (.inl fo))), (h0, .inr (0, [.ref a1, .ref a2, .int (nI w), .int (nI h), .int (nI kw), .int (nI kh)])), (a1, .inl (cA, 4096, .inl u369)), (a2, .inl (cB, 4096, .inl g))] := hD
  refine lv_aload_n hx hb dL_law_372 rfl (lv_at hl 2 rfl) ?_
  refine lv_aload_n hx hb dL_law_373 rfl (lv_at hl 0 rfl) ?_
  refine lv_iload hx hb dL_law_374 (lv_at hl 4 rfl) ?_
  refine lv_iconst (v := nI 1) hx hb dL_law_376 (by decide +kernel) ?_
  refine lv_iadd hx hb dL_law_377 ?_
  refine cf_top (nI_add _ _) ?_
  refine va_sld hx hb hX hbl hbA hS (by first | assumption | exact vp_in_nI (by omega) (by omega)) dL_law_378 ?_
  refine cf_top (show xs (nI (i + 1)).toNatClampNeg = xs (i + 1) by rw [nI_clamp (by omega)]) ?_
  refine lv_aload_n hx hb dL_law_379 rfl (lv_at hl 0 rfl) ?_
  refine lv_iload hx hb dL_law_380 (lv_at hl 4 rfl) ?_
  refine lv_iconst (v := nI 2) hx hb dL_law_382 (by decide +kernel) ?_
  refine lv_iadd hx hb dL_law_383 ?_
  refine cf_top (nI_add _ _) ?_
  refine va_sld hx hb hX hbl hbA hS (by first | assumption | exact vp_in_nI (by omega) (by omega)) dL_law_384 ?_
  refine cf_top (show xs (nI (i + 2)).toNatClampNeg = xs (i + 2) by rw [nI_clamp (by omega)]) ?_
  refine lv_aload_n hx hb dL_law_385 rfl (lv_at hl 0 rfl) ?_
  refine lv_iload hx hb dL_law_386 (lv_at hl 4 rfl) ?_
  refine lv_iconst (v := nI 3) hx hb dL_law_388 (by decide +kernel) ?_
  refine lv_iadd hx hb dL_law_389 ?_
  refine cf_top (nI_add _ _) ?_
  refine va_sld hx hb hX hbl hbA hS (by first | assumption | exact vp_in_nI (by omega) (by omega)) dL_law_390 ?_
  refine cf_top (show xs (nI (i + 3)).toNatClampNeg = xs (i + 3) by rw [nI_clamp (by omega)]) ?_
  refine lv_aload_n hx hb dL_law_391 rfl (lv_at hl 0 rfl) ?_
  refine lv_iload hx hb dL_law_392 (lv_at hl 4 rfl) ?_
  refine lv_iconst (v := nI 4) hx hb dL_law_394 (by decide +kernel) ?_
  refine lv_iadd hx hb dL_law_395 ?_
  refine cf_top (nI_add _ _) ?_
  refine va_sld hx hb hX hbl hbA hS (by first | assumption | exact vp_in_nI (by omega) (by omega)) dL_law_396 ?_
  refine cf_top (show xs (nI (i + 4)).toNatClampNeg = xs (i + 4) by rw [nI_clamp (by omega)]) ?_
  have hPc := hP.sub (ws' := [(o, .inr (1, [.int th, .int (nI w), .int (nI h), .int (nI kw), .int (nI kh), .ref b1, .ref b2, .ref b3])), (b1, .inl (cC, 4096, .inl f2)), (b2, .inl (cD, 4096, .inl g2)), (b3, .inl (cE, 4096, .inl md))]) [0, 1, 2, 3] rfl
  have hKc := hK.sub (tys' := [(cC, .int), (cD, .int), (cE, .int)]) [2, 3, 4] rfl
  have hDc := hD.sub (ws' := [(o, .inr (1, [.int th, .int (nI w), .int (nI h), .int (nI kw), .int (nI kh), .ref b1, .ref b2, .ref b3])), (b1, .inl (cC, 4096, .inl f2)), (b2, .inl (cD, 4096, .inl g2)), (b3, .inl (cE, 4096, .inl md))]) [0, 1, 2, 3] (by decide) rfl
  have hFc := va_free (wc := [(o, .inr (1, [.int th, .int (nI w), .int (nI h), .int (nI kw), .int (nI kh), .ref b1, .ref b2, .ref b3])), (b1, .inl (cC, 4096, .inl f2)), (b2, .inl (cD, 4096, .inl g2)), (b3, .inl (cE, 4096, .inl md))]) hD hS hA [0, 1, 2, 3] rfl
  refine va_calli (va_runV (As := [.int (xs (i + 1)), .int (xs (i + 2)), .int (xs (i + 3)), .int (xs (i + 4))]) (rest := [.int r369]) ⟨hx, hb, hml, hown, htsY⟩ (kY1_swap l dC dI H.size o b1 b2 b3 cC cD cE f2 g2 md th w h kw kh (xs (i + 1)) (xs (i + 2)) (xs (i + 3)) (xs (i + 4)) (by omega) (by omega)) (cwV 4 htsY gL_law_Y1_swap rfl rfl rfl (by decide +kernel) ⟨Nat.le_of_ble_eq_true rfl, Nat.le_of_ble_eq_true rfl⟩) ⟨fun a U g mk q => by obtain ⟨q0, q1, qP, qK, qD⟩ := q; exact ⟨q0, q1, qP, va_K.moved (u := U) (U := U.calling g mk a) (Vm.Alike.refl U.vm) qK, qD⟩, va_recv hKc hPc (ci := 1) (q0 := 0) rfl rfl, fun U hU hW => ⟨rfl, by rw [hU], by rw [hU]; exact hPc, va_K.moved hW.alike hKc, hDc.weaken (fun _ _ _ _ => trivial)⟩⟩ rfl rfl hl.1 rfl (lv_room (Nat.le_of_ble_eq_true rfl)) dL_law_397 ⟨(show _ ≤ 1035 by omega), (show _ ≤ 28705 by omega)⟩) hS (fun q _ h => hFc q h) hFc (fun r397 u397 t H1 locs ht hvm w397 hB hz1 hk1 hS => ?_)
  obtain ⟨hP1, -, hD1⟩ := hB
  rw [ht] at hP1
  try dsimp only at w397
  obtain ⟨hP, hD⟩ := va_join (wr := [(q3, .inl (cJ, 1, .inr (.inl fo))), (h0, .inr (0, [.ref a1, .ref a2, .int (nI w), .int (nI h), .int (nI kw), .int (nI kh)])), (a1, .inl (cA, 4096, .inl u369)), (a2, .inl (cB, 4096, .inl g))]) (w1 := [(o, .inr (1, [.int (nI 0), .int (nI w), .int (nI h), .int (nI kw), .int (nI kh), .ref b1, .ref b2, .ref b3])), (b1, .inl (cC, 4096, .inl u397)), (b2, .inl (cD, 4096, .inl g2)), (b3, .inl (cE, 4096, .inl md))]) hP hD [0, 1, 2, 3] [4, 5, 6, 7] rfl rfl (by decide) (by decide) hk1 hFc hP1 hD1
  generalize H1 = H at hP hS ⊢
  have hP : va_P (dC, dI) vwCm [(q3, .inl (cJ, 1, .inr (.inl fo))), (h0, .inr (0, [.ref a1, .ref a2, .int (nI w), .int (nI h), .int (nI kw), .int (nI kh)])), (a1, .inl (cA, 4096, .inl u369)), (a2, .inl (cB, 4096, .inl g)), (o, .inr (1, [.int (nI 0), .int (nI w), .int (nI h), .int (nI kw), .int (nI kh), .ref b1, .ref b2, .ref b3])), (b1, .inl (cC, 4096, .inl u397)), (b2, .inl (cD, 4096, .inl g2)), (b3, .inl (cE, 4096, .inl md))] H := hP
  have hD : va_D (fun q : Nat => s.heap.size ≤ q) [(q3, .inl (cJ, 1, .inr (.inl fo))), (h0, .inr (0, [.ref a1, .ref a2, .int (nI w), .int (nI h), .int (nI kw), .int (nI kh)])), (a1, .inl (cA, 4096, .inl u369)), (a2, .inl (cB, 4096, .inl g)), (o, .inr (1, [.int (nI 0), .int (nI w), .int (nI h), .int (nI kw), .int (nI kh), .ref b1, .ref b2, .ref b3])), (b1, .inl (cC, 4096, .inl u397)), (b2, .inl (cD, 4096, .inl g2)), (b3, .inl (cE, 4096, .inl md))] := hD
  refine lv_icmp_eq (tgt := 631) hx hb dL_law_400 (by decide) (fun c400 => ?_) (fun c400 => ?_)
  · skip
    refine W.widen (k := ca + 1) (n := sl + 6) (by omega) (by omega) ?_
    exact kk u369 g u397 g2 md (nI 0) fo w h kw kh H locs ls ⟨⟨hw1, hw, hh1, hh, hkw1, hkw, hkh1, hkh⟩, (w369.2.tr ((cf_swG_ag hag hw hh _ _ _ _).tr w397.2.sy)), hkg⟩ (hP.sub [1, 2, 3, 4, 5, 6, 7, 0] rfl) (hD.sub [1, 2, 3, 4, 5, 6, 7, 0] (by decide) rfl) hS (lv_sub hl [0, 1, 2, 3, 4] rfl)
  · skip
    exact absurd (w369.1.trans w397.1.symm) c400
