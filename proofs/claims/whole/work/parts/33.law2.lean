set_option maxHeartbeats 4000000 in
set_option maxRecDepth 100000 in
/-- the law's case 3 -/
theorem lc_3 {p : Program} {l : Launch} {e : Env} {s : State} {m : MethodId} {below : List Frame} {meth : Method} {c : Code} {dC : Nat → ClassId} {dI : Nat → Nat → Nat} {h0 a1 a2 : Nat} {cA cB : ClassId} {o b1 b2 b3 : Nat} {cC cD cE : ClassId} {q3 : Nat} {cJ : ClassId} {b L i ca sl sa1 sa2 sa3 : Nat} {xs : Nat → Int32} (htr : l.stackTraces = false) (C0 : lw_At p s m meth c b L xs) (hL : L ≤ 2562) (hi : i + 5 ≤ L) (hca : ca + 1 ≤ 1035) (hsl : sl + 6 ≤ 28705) (hK : va_K (dC, dI) vwCm [(cA, .int), (cB, .int), (cC, .int), (cD, .int), (cE, .int), (cJ, .long)] s) (hXf : cf_Xf sa1 sa2 sa3 s) (hNc : va_Nc "java/lang/IllegalArgumentException" "java/lang/IndexOutOfBoundsException" s) (hZf : cf_Zf (fun q : Nat => s.heap.size ≤ q) s s.heap) (kk : lw_K p l e s m below meth c dC dI h0 a1 a2 cA cB o b1 b2 b3 cC cD cE q3 cJ b 631 i (ca + 1) (sl + 6)) : lw_K p l e s m below meth c dC dI h0 a1 a2 cA cB o b1 b2 b3 cC cD cE q3 cJ b 238 i ca sl := by
  obtain ⟨hx, hb, hr, hml, hown, hts, hX, hbl, hlocks, hgv⟩ := C0
  have hown : s.vm.findClass RL = some m.cls := hown
  have htsX : ∀ w ∈ wsL_law, w.before #[Value.ref b] s = true := fun w h => hts w (wsL_law_in w h)
  have htsY : ∀ w ∈ wsLy, w.before #[Value.ref b] s = true := fun w h => hts w (wsLy_in w h)
  have hA : ∀ q : Nat, s.heap.size ≤ q → (fun q : Nat => s.heap.size ≤ q) q := fun _ h => h
  have hbA : ¬ (fun q : Nat => s.heap.size ≤ q) b := Nat.not_le.mpr hbl
  intro f g f2 g2 md th fo w h kw kh H locs ls hok hP hD hS hl
  obtain ⟨⟨hw1, hw, hh1, hh, hkw1, hkw, hkh1, hkh⟩, hag, hkg⟩ := hok
  refine lv_aload_n hx hb dL_law_238 rfl (lv_at hl 1 rfl) ?_
  have hPc := hP.sub (ws' := [(h0, .inr (0, [.ref a1, .ref a2, .int (nI w), .int (nI h), .int (nI kw), .int (nI kh)])), (a1, .inl (cA, 4096, .inl f)), (a2, .inl (cB, 4096, .inl g))]) [0, 1, 2] rfl
  have hKc := hK.sub (tys' := [(cA, .int), (cB, .int)]) [0, 1] rfl
  have hDc := hD.sub (ws' := [(h0, .inr (0, [.ref a1, .ref a2, .int (nI w), .int (nI h), .int (nI kw), .int (nI kh)])), (a1, .inl (cA, 4096, .inl f)), (a2, .inl (cB, 4096, .inl g))]) [0, 1, 2] (by decide) rfl
  have hFc := va_free (wc := [(h0, .inr (0, [.ref a1, .ref a2, .int (nI w), .int (nI h), .int (nI kw), .int (nI kh)])), (a1, .inl (cA, 4096, .inl f)), (a2, .inl (cB, 4096, .inl g))]) hD hS hA [0, 1, 2] rfl
  refine va_callv (va_runV (As := []) (rest := []) ⟨hx, hb, hml, hown, htsX⟩ (kX0_mirror l dC dI H.size h0 a1 a2 cA cB f g w h kw kh (by omega) (by omega) (by omega) (by omega)) (cwV 0 htsX gL_law_X0_mirror rfl rfl rfl (by decide +kernel) ⟨Nat.le_of_ble_eq_true rfl, Nat.le_of_ble_eq_true rfl⟩) ⟨fun a U g mk q => by obtain ⟨q0, q1, qP, qK, qD⟩ := q; exact ⟨q0, q1, qP, va_K.moved (u := U) (U := U.calling g mk a) (Vm.Alike.refl U.vm) qK, qD⟩, va_recv hKc hPc (ci := 0) (q0 := 0) rfl rfl, fun U hU hW => ⟨rfl, by rw [hU], by rw [hU]; exact hPc, va_K.moved hW.alike hKc, hDc.weaken (fun _ _ _ _ => trivial)⟩⟩ rfl rfl hl.1 rfl (lv_room (Nat.le_of_ble_eq_true rfl)) dL_law_239 ⟨(show _ ≤ 1035 by omega), (show _ ≤ 28705 by omega)⟩) hS (fun q _ h => hFc q h) hFc (fun u239 t H1 locs ht hvm w239 hB hz1 hk1 hS => ?_)
  obtain ⟨hP1, -, hD1⟩ := hB
  rw [ht] at hP1
  try dsimp only at w239
  obtain ⟨hP, hD⟩ := va_join (wr := [(o, .inr (1, [.int th, .int (nI w), .int (nI h), .int (nI kw), .int (nI kh), .ref b1, .ref b2, .ref b3])), (b1, .inl (cC, 4096, .inl f2)), (b2, .inl (cD, 4096, .inl g2)), (b3, .inl (cE, 4096, .inl md)), (q3, .inl (cJ, 1, .inr (.inl fo)))]) (w1 := [(h0, .inr (0, [.ref a1, .ref a2, .int (nI w), .int (nI h), .int (nI kw), .int (nI kh)])), (a1, .inl (cA, 4096, .inl u239)), (a2, .inl (cB, 4096, .inl g))]) hP hD [0, 1, 2] [3, 4, 5, 6, 7] rfl rfl (by decide) (by decide) hk1 hFc hP1 hD1
  generalize H1 = H at hP hS ⊢
  have hP : va_P (dC, dI) vwCm [(o, .inr (1, [.int th, .int (nI w), .int (nI h), .int (nI kw), .int (nI kh), .ref b1, .ref b2, .ref b3])), (b1, .inl (cC, 4096, .inl f2)), (b2, .inl (cD, 4096, .inl g2)), (b3, .inl (cE, 4096, .inl md)), (q3, .inl (cJ, 1, .inr (.inl fo))), (h0, .inr (0, [.ref a1, .ref a2, .int (nI w), .int (nI h), .int (nI kw), .int (nI kh)])), (a1, .inl (cA, 4096, .inl u239)), (a2, .inl (cB, 4096, .inl g))] H := hP
  have hD : va_D (fun q : Nat => s.heap.size ≤ q) [(o, .inr (1, [.int th, .int (nI w), .int (nI h), .int (nI kw), .int (nI kh), .ref b1, .ref b2, .ref b3])), (b1, .inl (cC, 4096, .inl f2)), (b2, .inl (cD, 4096, .inl g2)), (b3, .inl (cE, 4096, .inl md)), (q3, .inl (cJ, 1, .inr (.inl fo))), (h0, .inr (0, [.ref a1, .ref a2, .int (nI w), .int (nI h), .int (nI kw), .int (nI kh)])), (a1, .inl (cA, 4096, .inl u239)), (a2, .inl (cB, 4096, .inl g))] := hD
  refine lv_aload_n hx hb dL_law_242 rfl (lv_at hl 2 rfl) ?_
  have hPc := hP.sub (ws' := [(o, .inr (1, [.int th, .int (nI w), .int (nI h), .int (nI kw), .int (nI kh), .ref b1, .ref b2, .ref b3])), (b1, .inl (cC, 4096, .inl f2)), (b2, .inl (cD, 4096, .inl g2)), (b3, .inl (cE, 4096, .inl md))]) [0, 1, 2, 3] rfl
  have hKc := hK.sub (tys' := [(cC, .int), (cD, .int), (cE, .int)]) [2, 3, 4] rfl
  have hDc := hD.sub (ws' := [(o, .inr (1, [.int th, .int (nI w), .int (nI h), .int (nI kw), .int (nI kh), .ref b1, .ref b2, .ref b3])), (b1, .inl (cC, 4096, .inl f2)), (b2, .inl (cD, 4096, .inl g2)), (b3, .inl (cE, 4096, .inl md))]) [0, 1, 2, 3] (by decide) rfl
  have hFc := va_free (wc := [(o, .inr (1, [.int th, .int (nI w), .int (nI h), .int (nI kw), .int (nI kh), .ref b1, .ref b2, .ref b3])), (b1, .inl (cC, 4096, .inl f2)), (b2, .inl (cD, 4096, .inl g2)), (b3, .inl (cE, 4096, .inl md))]) hD hS hA [0, 1, 2, 3] rfl
  refine va_callv (va_runV (As := []) (rest := []) ⟨hx, hb, hml, hown, htsY⟩ (kY1_mirror l dC dI H.size o b1 b2 b3 cC cD cE f2 g2 md th w h kw kh (by omega) (by omega) (by omega) (by omega)) (cwV 0 htsY gL_law_Y1_mirror rfl rfl rfl (by decide +kernel) ⟨Nat.le_of_ble_eq_true rfl, Nat.le_of_ble_eq_true rfl⟩) ⟨fun a U g mk q => by obtain ⟨q0, q1, qP, qK, qD⟩ := q; exact ⟨q0, q1, qP, va_K.moved (u := U) (U := U.calling g mk a) (Vm.Alike.refl U.vm) qK, qD⟩, va_recv hKc hPc (ci := 1) (q0 := 0) rfl rfl, fun U hU hW => ⟨rfl, by rw [hU], by rw [hU]; exact hPc, va_K.moved hW.alike hKc, hDc.weaken (fun _ _ _ _ => trivial)⟩⟩ rfl rfl hl.1 rfl (lv_room (Nat.le_of_ble_eq_true rfl)) dL_law_243 ⟨(show _ ≤ 1035 by omega), (show _ ≤ 28705 by omega)⟩) hS (fun q _ h => hFc q h) hFc (fun u243 t H1 locs ht hvm w243 hB hz1 hk1 hS => ?_)
  obtain ⟨hP1, -, hD1⟩ := hB
  rw [ht] at hP1
  try dsimp only at w243
  obtain ⟨hP, hD⟩ := va_join (wr := [(q3, .inl (cJ, 1, .inr (.inl fo))), (h0, .inr (0, [.ref a1, .ref a2, .int (nI w), .int (nI h), .int (nI kw), .int (nI kh)])), (a1, .inl (cA, 4096, .inl u239)), (a2, .inl (cB, 4096, .inl g))]) (w1 := [(o, .inr (1, [.int (nI 0), .int (nI w), .int (nI h), .int (nI kw), .int (nI kh), .ref b1, .ref b2, .ref b3])), (b1, .inl (cC, 4096, .inl u243.1)), (b2, .inl (cD, 4096, .inl g2)), (b3, .inl (cE, 4096, .inl u243.2))]) hP hD [0, 1, 2, 3] [4, 5, 6, 7] rfl rfl (by decide) (by decide) hk1 hFc hP1 hD1
  generalize H1 = H at hP hS ⊢
  have hP : va_P (dC, dI) vwCm [(q3, .inl (cJ, 1, .inr (.inl fo))), (h0, .inr (0, [.ref a1, .ref a2, .int (nI w), .int (nI h), .int (nI kw), .int (nI kh)])), (a1, .inl (cA, 4096, .inl u239)), (a2, .inl (cB, 4096, .inl g)), (o, .inr (1, [.int (nI 0), .int (nI w), .int (nI h), .int (nI kw), .int (nI kh), .ref b1, .ref b2, .ref b3])), (b1, .inl (cC, 4096, .inl u243.1)), (b2, .inl (cD, 4096, .inl g2)), (b3, .inl (cE, 4096, .inl u243.2))] H := hP
  have hD : va_D (fun q : Nat => s.heap.size ≤ q) [(q3, .inl (cJ, 1, .inr (.inl fo))), (h0, .inr (0, [.ref a1, .ref a2, .int (nI w), .int (nI h), .int (nI kw), .int (nI kh)])), (a1, .inl (cA, 4096, .inl u239)), (a2, .inl (cB, 4096, .inl g)), (o, .inr (1, [.int (nI 0), .int (nI w), .int (nI h), .int (nI kw), .int (nI kh), .ref b1, .ref b2, .ref b3])), (b1, .inl (cC, 4096, .inl u243.1)), (b2, .inl (cD, 4096, .inl g2)), (b3, .inl (cE, 4096, .inl u243.2))] := hD
  refine lv_goto (tgt := 631) hx hb dL_law_246 (by decide) ?_
  refine W.widen (k := ca + 1) (n := sl + 6) (by omega) (by omega) ?_
  exact kk u239 g u243.1 g2 u243.2 (nI 0) fo w h kw kh H locs ls ⟨⟨hw1, hw, hh1, hh, hkw1, hkw, hkh1, hkh⟩, (w239.tr ((cf_mi_ag hag).tr w243.sy)), hkg⟩ (hP.sub [1, 2, 3, 4, 5, 6, 7, 0] rfl) (hD.sub [1, 2, 3, 4, 5, 6, 7, 0] (by decide) rfl) hS (lv_sub hl [0, 1, 2, 3, 4] rfl)
set_option maxHeartbeats 4000000 in
set_option maxRecDepth 100000 in
/-- the law's case 4 -/
theorem lc_4 {p : Program} {l : Launch} {e : Env} {s : State} {m : MethodId} {below : List Frame} {meth : Method} {c : Code} {dC : Nat → ClassId} {dI : Nat → Nat → Nat} {h0 a1 a2 : Nat} {cA cB : ClassId} {o b1 b2 b3 : Nat} {cC cD cE : ClassId} {q3 : Nat} {cJ : ClassId} {b L i ca sl sa1 sa2 sa3 : Nat} {xs : Nat → Int32} (htr : l.stackTraces = false) (C0 : lw_At p s m meth c b L xs) (hL : L ≤ 2562) (hi : i + 5 ≤ L) (hca : ca + 1 ≤ 1035) (hsl : sl + 6 ≤ 28705) (hK : va_K (dC, dI) vwCm [(cA, .int), (cB, .int), (cC, .int), (cD, .int), (cE, .int), (cJ, .long)] s) (hXf : cf_Xf sa1 sa2 sa3 s) (hNc : va_Nc "java/lang/IllegalArgumentException" "java/lang/IndexOutOfBoundsException" s) (hZf : cf_Zf (fun q : Nat => s.heap.size ≤ q) s s.heap) (kk : lw_K p l e s m below meth c dC dI h0 a1 a2 cA cB o b1 b2 b3 cC cD cE q3 cJ b 631 i (ca + 1) (sl + 6)) : lw_K p l e s m below meth c dC dI h0 a1 a2 cA cB o b1 b2 b3 cC cD cE q3 cJ b 249 i ca sl := by
  obtain ⟨hx, hb, hr, hml, hown, hts, hX, hbl, hlocks, hgv⟩ := C0
  have hown : s.vm.findClass RL = some m.cls := hown
  have htsX : ∀ w ∈ wsL_law, w.before #[Value.ref b] s = true := fun w h => hts w (wsL_law_in w h)
  have htsY : ∀ w ∈ wsLy, w.before #[Value.ref b] s = true := fun w h => hts w (wsLy_in w h)
  have hA : ∀ q : Nat, s.heap.size ≤ q → (fun q : Nat => s.heap.size ≤ q) q := fun _ h => h
  have hbA : ¬ (fun q : Nat => s.heap.size ≤ q) b := Nat.not_le.mpr hbl
  intro f g f2 g2 md th fo w h kw kh H locs ls hok hP hD hS hl
  obtain ⟨⟨hw1, hw, hh1, hh, hkw1, hkw, hkh1, hkh⟩, hag, hkg⟩ := hok
  refine lv_aload_n hx hb dL_law_249 rfl (lv_at hl 1 rfl) ?_
  have hPc := hP.sub (ws' := [(h0, .inr (0, [.ref a1, .ref a2, .int (nI w), .int (nI h), .int (nI kw), .int (nI kh)])), (a1, .inl (cA, 4096, .inl f)), (a2, .inl (cB, 4096, .inl g))]) [0, 1, 2] rfl
  have hKc := hK.sub (tys' := [(cA, .int), (cB, .int)]) [0, 1] rfl
  have hDc := hD.sub (ws' := [(h0, .inr (0, [.ref a1, .ref a2, .int (nI w), .int (nI h), .int (nI kw), .int (nI kh)])), (a1, .inl (cA, 4096, .inl f)), (a2, .inl (cB, 4096, .inl g))]) [0, 1, 2] (by decide) rfl
  have hFc := va_free (wc := [(h0, .inr (0, [.ref a1, .ref a2, .int (nI w), .int (nI h), .int (nI kw), .int (nI kh)])), (a1, .inl (cA, 4096, .inl f)), (a2, .inl (cB, 4096, .inl g))]) hD hS hA [0, 1, 2] rfl
  refine va_callv (va_runV (As := []) (rest := []) ⟨hx, hb, hml, hown, htsX⟩ (kX0_flip l dC dI H.size h0 a1 a2 cA cB f g w h kw kh (by omega) (by omega) (by omega) (by omega)) (cwV 0 htsX gL_law_X0_flip rfl rfl rfl (by decide +kernel) ⟨Nat.le_of_ble_eq_true rfl, Nat.le_of_ble_eq_true rfl⟩) ⟨fun a U g mk q => by obtain ⟨q0, q1, qP, qK, qD⟩ := q; exact ⟨q0, q1, qP, va_K.moved (u := U) (U := U.calling g mk a) (Vm.Alike.refl U.vm) qK, qD⟩, va_recv hKc hPc (ci := 0) (q0 := 0) rfl rfl, fun U hU hW => ⟨rfl, by rw [hU], by rw [hU]; exact hPc, va_K.moved hW.alike hKc, hDc.weaken (fun _ _ _ _ => trivial)⟩⟩ rfl rfl hl.1 rfl (lv_room (Nat.le_of_ble_eq_true rfl)) dL_law_250 ⟨(show _ ≤ 1035 by omega), (show _ ≤ 28705 by omega)⟩) hS (fun q _ h => hFc q h) hFc (fun u250 t H1 locs ht hvm w250 hB hz1 hk1 hS => ?_)
  obtain ⟨hP1, -, hD1⟩ := hB
  rw [ht] at hP1
  try dsimp only at w250
  obtain ⟨hP, hD⟩ := va_join (wr := [(o, .inr (1, [.int th, .int (nI w), .int (nI h), .int (nI kw), .int (nI kh), .ref b1, .ref b2, .ref b3])), (b1, .inl (cC, 4096, .inl f2)), (b2, .inl (cD, 4096, .inl g2)), (b3, .inl (cE, 4096, .inl md)), (q3, .inl (cJ, 1, .inr (.inl fo)))]) (w1 := [(h0, .inr (0, [.ref a1, .ref a2, .int (nI w), .int (nI h), .int (nI kw), .int (nI kh)])), (a1, .inl (cA, 4096, .inl u250)), (a2, .inl (cB, 4096, .inl g))]) hP hD [0, 1, 2] [3, 4, 5, 6, 7] rfl rfl (by decide) (by decide) hk1 hFc hP1 hD1
  generalize H1 = H at hP hS ⊢
  have hP : va_P (dC, dI) vwCm [(o, .inr (1, [.int th, .int (nI w), .int (nI h), .int (nI kw), .int (nI kh), .ref b1, .ref b2, .ref b3])), (b1, .inl (cC, 4096, .inl f2)), (b2, .inl (cD, 4096, .inl g2)), (b3, .inl (cE, 4096, .inl md)), (q3, .inl (cJ, 1, .inr (.inl fo))), (h0, .inr (0, [.ref a1, .ref a2, .int (nI w), .int (nI h), .int (nI kw), .int (nI kh)])), (a1, .inl (cA, 4096, .inl u250)), (a2, .inl (cB, 4096, .inl g))] H := hP
  have hD : va_D (fun q : Nat => s.heap.size ≤ q) [(o, .inr (1, [.int th, .int (nI w), .int (nI h), .int (nI kw), .int (nI kh), .ref b1, .ref b2, .ref b3])), (b1, .inl (cC, 4096, .inl f2)), (b2, .inl (cD, 4096, .inl g2)), (b3, .inl (cE, 4096, .inl md)), (q3, .inl (cJ, 1, .inr (.inl fo))), (h0, .inr (0, [.ref a1, .ref a2, .int (nI w), .int (nI h), .int (nI kw), .int (nI kh)])), (a1, .inl (cA, 4096, .inl u250)), (a2, .inl (cB, 4096, .inl g))] := hD
  refine lv_aload_n hx hb dL_law_253 rfl (lv_at hl 2 rfl) ?_
  have hPc := hP.sub (ws' := [(o, .inr (1, [.int th, .int (nI w), .int (nI h), .int (nI kw), .int (nI kh), .ref b1, .ref b2, .ref b3])), (b1, .inl (cC, 4096, .inl f2)), (b2, .inl (cD, 4096, .inl g2)), (b3, .inl (cE, 4096, .inl md))]) [0, 1, 2, 3] rfl
  have hKc := hK.sub (tys' := [(cC, .int), (cD, .int), (cE, .int)]) [2, 3, 4] rfl
  have hDc := hD.sub (ws' := [(o, .inr (1, [.int th, .int (nI w), .int (nI h), .int (nI kw), .int (nI kh), .ref b1, .ref b2, .ref b3])), (b1, .inl (cC, 4096, .inl f2)), (b2, .inl (cD, 4096, .inl g2)), (b3, .inl (cE, 4096, .inl md))]) [0, 1, 2, 3] (by decide) rfl
  have hFc := va_free (wc := [(o, .inr (1, [.int th, .int (nI w), .int (nI h), .int (nI kw), .int (nI kh), .ref b1, .ref b2, .ref b3])), (b1, .inl (cC, 4096, .inl f2)), (b2, .inl (cD, 4096, .inl g2)), (b3, .inl (cE, 4096, .inl md))]) hD hS hA [0, 1, 2, 3] rfl
  refine va_callv (va_runV (As := []) (rest := []) ⟨hx, hb, hml, hown, htsY⟩ (kY1_flip l dC dI H.size o b1 b2 b3 cC cD cE f2 g2 md th w h kw kh (by omega) (by omega) (by omega) (by omega)) (cwV 0 htsY gL_law_Y1_flip rfl rfl rfl (by decide +kernel) ⟨Nat.le_of_ble_eq_true rfl, Nat.le_of_ble_eq_true rfl⟩) ⟨fun a U g mk q => by obtain ⟨q0, q1, qP, qK, qD⟩ := q; exact ⟨q0, q1, qP, va_K.moved (u := U) (U := U.calling g mk a) (Vm.Alike.refl U.vm) qK, qD⟩, va_recv hKc hPc (ci := 1) (q0 := 0) rfl rfl, fun U hU hW => ⟨rfl, by rw [hU], by rw [hU]; exact hPc, va_K.moved hW.alike hKc, hDc.weaken (fun _ _ _ _ => trivial)⟩⟩ rfl rfl hl.1 rfl (lv_room (Nat.le_of_ble_eq_true rfl)) dL_law_254 ⟨(show _ ≤ 1035 by omega), (show _ ≤ 28705 by omega)⟩) hS (fun q _ h => hFc q h) hFc (fun u254 t H1 locs ht hvm w254 hB hz1 hk1 hS => ?_)
  obtain ⟨hP1, -, hD1⟩ := hB
  rw [ht] at hP1
  try dsimp only at w254
  obtain ⟨hP, hD⟩ := va_join (wr := [(q3, .inl (cJ, 1, .inr (.inl fo))), (h0, .inr (0, [.ref a1, .ref a2, .int (nI w), .int (nI h), .int (nI kw), .int (nI kh)])), (a1, .inl (cA, 4096, .inl u250)), (a2, .inl (cB, 4096, .inl g))]) (w1 := [(o, .inr (1, [.int (nI 0), .int (nI w), .int (nI h), .int (nI kw), .int (nI kh), .ref b1, .ref b2, .ref b3])), (b1, .inl (cC, 4096, .inl u254.1)), (b2, .inl (cD, 4096, .inl g2)), (b3, .inl (cE, 4096, .inl u254.2))]) hP hD [0, 1, 2, 3] [4, 5, 6, 7] rfl rfl (by decide) (by decide) hk1 hFc hP1 hD1
  generalize H1 = H at hP hS ⊢
  have hP : va_P (dC, dI) vwCm [(q3, .inl (cJ, 1, .inr (.inl fo))), (h0, .inr (0, [.ref a1, .ref a2, .int (nI w), .int (nI h), .int (nI kw), .int (nI kh)])), (a1, .inl (cA, 4096, .inl u250)), (a2, .inl (cB, 4096, .inl g)), (o, .inr (1, [.int (nI 0), .int (nI w), .int (nI h), .int (nI kw), .int (nI kh), .ref b1, .ref b2, .ref b3])), (b1, .inl (cC, 4096, .inl u254.1)), (b2, .inl (cD, 4096, .inl g2)), (b3, .inl (cE, 4096, .inl u254.2))] H := hP
  have hD : va_D (fun q : Nat => s.heap.size ≤ q) [(q3, .inl (cJ, 1, .inr (.inl fo))), (h0, .inr (0, [.ref a1, .ref a2, .int (nI w), .int (nI h), .int (nI kw), .int (nI kh)])), (a1, .inl (cA, 4096, .inl u250)), (a2, .inl (cB, 4096, .inl g)), (o, .inr (1, [.int (nI 0), .int (nI w), .int (nI h), .int (nI kw), .int (nI kh), .ref b1, .ref b2, .ref b3])), (b1, .inl (cC, 4096, .inl u254.1)), (b2, .inl (cD, 4096, .inl g2)), (b3, .inl (cE, 4096, .inl u254.2))] := hD
  refine lv_goto (tgt := 631) hx hb dL_law_257 (by decide) ?_
  refine W.widen (k := ca + 1) (n := sl + 6) (by omega) (by omega) ?_
  exact kk u250 g u254.1 g2 u254.2 (nI 0) fo w h kw kh H locs ls ⟨⟨hw1, hw, hh1, hh, hkw1, hkw, hkh1, hkh⟩, (w250.tr ((cf_fl_ag hag).tr w254.sy)), hkg⟩ (hP.sub [1, 2, 3, 4, 5, 6, 7, 0] rfl) (hD.sub [1, 2, 3, 4, 5, 6, 7, 0] (by decide) rfl) hS (lv_sub hl [0, 1, 2, 3, 4] rfl)
set_option maxHeartbeats 4000000 in
set_option maxRecDepth 100000 in
/-- the law's case 5 -/
theorem lc_5 {p : Program} {l : Launch} {e : Env} {s : State} {m : MethodId} {below : List Frame} {meth : Method} {c : Code} {dC : Nat → ClassId} {dI : Nat → Nat → Nat} {h0 a1 a2 : Nat} {cA cB : ClassId} {o b1 b2 b3 : Nat} {cC cD cE : ClassId} {q3 : Nat} {cJ : ClassId} {b L i ca sl sa1 sa2 sa3 : Nat} {xs : Nat → Int32} (htr : l.stackTraces = false) (C0 : lw_At p s m meth c b L xs) (hL : L ≤ 2562) (hi : i + 5 ≤ L) (hca : ca + 1 ≤ 1035) (hsl : sl + 6 ≤ 28705) (hK : va_K (dC, dI) vwCm [(cA, .int), (cB, .int), (cC, .int), (cD, .int), (cE, .int), (cJ, .long)] s) (hXf : cf_Xf sa1 sa2 sa3 s) (hNc : va_Nc "java/lang/IllegalArgumentException" "java/lang/IndexOutOfBoundsException" s) (hZf : cf_Zf (fun q : Nat => s.heap.size ≤ q) s s.heap) (kk : lw_K p l e s m below meth c dC dI h0 a1 a2 cA cB o b1 b2 b3 cC cD cE q3 cJ b 631 i (ca + 1) (sl + 6)) : lw_K p l e s m below meth c dC dI h0 a1 a2 cA cB o b1 b2 b3 cC cD cE q3 cJ b 260 i ca sl := by
  obtain ⟨hx, hb, hr, hml, hown, hts, hX, hbl, hlocks, hgv⟩ := C0
  have hown : s.vm.findClass RL = some m.cls := hown
  have htsX : ∀ w ∈ wsL_law, w.before #[Value.ref b] s = true := fun w h => hts w (wsL_law_in w h)
  have htsY : ∀ w ∈ wsLy, w.before #[Value.ref b] s = true := fun w h => hts w (wsLy_in w h)
  have hA : ∀ q : Nat, s.heap.size ≤ q → (fun q : Nat => s.heap.size ≤ q) q := fun _ h => h
  have hbA : ¬ (fun q : Nat => s.heap.size ≤ q) b := Nat.not_le.mpr hbl
  intro f g f2 g2 md th fo w h kw kh H locs ls hok hP hD hS hl
  obtain ⟨⟨hw1, hw, hh1, hh, hkw1, hkw, hkh1, hkh⟩, hag, hkg⟩ := hok
  refine lv_aload_n hx hb dL_law_260 rfl (lv_at hl 1 rfl) ?_
  refine lv_aload_n hx hb dL_law_261 rfl (lv_at hl 0 rfl) ?_
  refine lv_iload hx hb dL_law_262 (lv_at hl 4 rfl) ?_
  refine lv_iconst (v := nI 1) hx hb dL_law_264 (by decide +kernel) ?_
  refine lv_iadd hx hb dL_law_265 ?_
  refine cf_top (nI_add _ _) ?_
  refine va_sld hx hb hX hbl hbA hS (by first | assumption | exact vp_in_nI (by omega) (by omega)) dL_law_266 ?_
  refine cf_top (show xs (nI (i + 1)).toNatClampNeg = xs (i + 1) by rw [nI_clamp (by omega)]) ?_
  have hPc := hP.sub (ws' := [(h0, .inr (0, [.ref a1, .ref a2, .int (nI w), .int (nI h), .int (nI kw), .int (nI kh)])), (a1, .inl (cA, 4096, .inl f)), (a2, .inl (cB, 4096, .inl g))]) [0, 1, 2] rfl
  have hKc := hK.sub (tys' := [(cA, .int), (cB, .int)]) [0, 1] rfl
  have hDc := hD.sub (ws' := [(h0, .inr (0, [.ref a1, .ref a2, .int (nI w), .int (nI h), .int (nI kw), .int (nI kh)])), (a1, .inl (cA, 4096, .inl f)), (a2, .inl (cB, 4096, .inl g))]) [0, 1, 2] (by decide) rfl
  have hFc := va_free (wc := [(h0, .inr (0, [.ref a1, .ref a2, .int (nI w), .int (nI h), .int (nI kw), .int (nI kh)])), (a1, .inl (cA, 4096, .inl f)), (a2, .inl (cB, 4096, .inl g))]) hD hS hA [0, 1, 2] rfl
  refine va_callv (va_runV (As := [.int (xs (i + 1))]) (rest := []) ⟨hx, hb, hml, hown, htsX⟩ (kX0_turn l dC dI H.size h0 a1 a2 cA cB f g w h kw kh (xs (i + 1)) (by omega) (by omega) (by omega) (by omega)) (cwV 1 htsX gL_law_X0_turn rfl rfl rfl (by decide +kernel) ⟨Nat.le_of_ble_eq_true rfl, Nat.le_of_ble_eq_true rfl⟩) ⟨fun a U g mk q => by obtain ⟨q0, q1, qP, qK, qD⟩ := q; exact ⟨q0, q1, qP, va_K.moved (u := U) (U := U.calling g mk a) (Vm.Alike.refl U.vm) qK, qD⟩, va_recv hKc hPc (ci := 0) (q0 := 0) rfl rfl, fun U hU hW => ⟨rfl, by rw [hU], by rw [hU]; exact hPc, va_K.moved hW.alike hKc, hDc.weaken (fun _ _ _ _ => trivial)⟩⟩ rfl rfl hl.1 rfl (lv_room (Nat.le_of_ble_eq_true rfl)) dL_law_267 ⟨(show _ ≤ 1035 by omega), (show _ ≤ 28705 by omega)⟩) hS (fun q _ h => hFc q h) hFc (fun u267 t H1 locs ht hvm w267 hB hz1 hk1 hS => ?_)
  obtain ⟨hP1, -, hD1⟩ := hB
  rw [ht] at hP1
  try dsimp only at w267
  obtain ⟨hP, hD⟩ := va_join (wr := [(o, .inr (1, [.int th, .int (nI w), .int (nI h), .int (nI kw), .int (nI kh), .ref b1, .ref b2, .ref b3])), (b1, .inl (cC, 4096, .inl f2)), (b2, .inl (cD, 4096, .inl g2)), (b3, .inl (cE, 4096, .inl md)), (q3, .inl (cJ, 1, .inr (.inl fo)))]) (w1 := [(h0, .inr (0, [.ref a1, .ref a2, .int (nI u267.2.1), .int (nI u267.2.2), .int (nI kw), .int (nI kh)])), (a1, .inl (cA, 4096, .inl u267.1)), (a2, .inl (cB, 4096, .inl g))]) hP hD [0, 1, 2] [3, 4, 5, 6, 7] rfl rfl (by decide) (by decide) hk1 hFc hP1 hD1
  generalize H1 = H at hP hS ⊢
  have hP : va_P (dC, dI) vwCm [(o, .inr (1, [.int th, .int (nI w), .int (nI h), .int (nI kw), .int (nI kh), .ref b1, .ref b2, .ref b3])), (b1, .inl (cC, 4096, .inl f2)), (b2, .inl (cD, 4096, .inl g2)), (b3, .inl (cE, 4096, .inl md)), (q3, .inl (cJ, 1, .inr (.inl fo))), (h0, .inr (0, [.ref a1, .ref a2, .int (nI u267.2.1), .int (nI u267.2.2), .int (nI kw), .int (nI kh)])), (a1, .inl (cA, 4096, .inl u267.1)), (a2, .inl (cB, 4096, .inl g))] H := hP
  have hD : va_D (fun q : Nat => s.heap.size ≤ q) [(o, .inr (1, [.int th, .int (nI w), .int (nI h), .int (nI kw), .int (nI kh), .ref b1, .ref b2, .ref b3])), (b1, .inl (cC, 4096, .inl f2)), (b2, .inl (cD, 4096, .inl g2)), (b3, .inl (cE, 4096, .inl md)), (q3, .inl (cJ, 1, .inr (.inl fo))), (h0, .inr (0, [.ref a1, .ref a2, .int (nI u267.2.1), .int (nI u267.2.2), .int (nI kw), .int (nI kh)])), (a1, .inl (cA, 4096, .inl u267.1)), (a2, .inl (cB, 4096, .inl g))] := hD
  refine lv_aload_n hx hb dL_law_270 rfl (lv_at hl 2 rfl) ?_
  refine lv_aload_n hx hb dL_law_271 rfl (lv_at hl 0 rfl) ?_
  refine lv_iload hx hb dL_law_272 (lv_at hl 4 rfl) ?_
  refine lv_iconst (v := nI 1) hx hb dL_law_274 (by decide +kernel) ?_
  refine lv_iadd hx hb dL_law_275 ?_
  refine cf_top (nI_add _ _) ?_
  refine va_sld hx hb hX hbl hbA hS (by first | assumption | exact vp_in_nI (by omega) (by omega)) dL_law_276 ?_
  refine cf_top (show xs (nI (i + 1)).toNatClampNeg = xs (i + 1) by rw [nI_clamp (by omega)]) ?_
  have hPc := hP.sub (ws' := [(o, .inr (1, [.int th, .int (nI w), .int (nI h), .int (nI kw), .int (nI kh), .ref b1, .ref b2, .ref b3])), (b1, .inl (cC, 4096, .inl f2)), (b2, .inl (cD, 4096, .inl g2)), (b3, .inl (cE, 4096, .inl md))]) [0, 1, 2, 3] rfl
  have hKc := hK.sub (tys' := [(cC, .int), (cD, .int), (cE, .int)]) [2, 3, 4] rfl
  have hDc := hD.sub (ws' := [(o, .inr (1, [.int th, .int (nI w), .int (nI h), .int (nI kw), .int (nI kh), .ref b1, .ref b2, .ref b3])), (b1, .inl (cC, 4096, .inl f2)), (b2, .inl (cD, 4096, .inl g2)), (b3, .inl (cE, 4096, .inl md))]) [0, 1, 2, 3] (by decide) rfl
  have hFc := va_free (wc := [(o, .inr (1, [.int th, .int (nI w), .int (nI h), .int (nI kw), .int (nI kh), .ref b1, .ref b2, .ref b3])), (b1, .inl (cC, 4096, .inl f2)), (b2, .inl (cD, 4096, .inl g2)), (b3, .inl (cE, 4096, .inl md))]) hD hS hA [0, 1, 2, 3] rfl
  refine va_callv (va_runV (As := [.int (xs (i + 1))]) (rest := []) ⟨hx, hb, hml, hown, htsY⟩ (kY1_turn l dC dI H.size o b1 b2 b3 cC cD cE f2 g2 md th w h kw kh (xs (i + 1)) (by omega) (by omega) (by omega) (by omega)) (cwV 1 htsY gL_law_Y1_turn rfl rfl rfl (by decide +kernel) ⟨Nat.le_of_ble_eq_true rfl, Nat.le_of_ble_eq_true rfl⟩) ⟨fun a U g mk q => by obtain ⟨q0, q1, qP, qK, qD⟩ := q; exact ⟨q0, q1, qP, va_K.moved (u := U) (U := U.calling g mk a) (Vm.Alike.refl U.vm) qK, qD⟩, va_recv hKc hPc (ci := 1) (q0 := 0) rfl rfl, fun U hU hW => ⟨rfl, by rw [hU], by rw [hU]; exact hPc, va_K.moved hW.alike hKc, hDc.weaken (fun _ _ _ _ => trivial)⟩⟩ rfl rfl hl.1 rfl (lv_room (Nat.le_of_ble_eq_true rfl)) dL_law_277 ⟨(show _ ≤ 1035 by omega), (show _ ≤ 28705 by omega)⟩) hS (fun q _ h => hFc q h) hFc (fun u277 t H1 locs ht hvm w277 hB hz1 hk1 hS => ?_)
  obtain ⟨hP1, -, hD1⟩ := hB
  rw [ht] at hP1
  try dsimp only at w277
  obtain ⟨hP, hD⟩ := va_join (wr := [(q3, .inl (cJ, 1, .inr (.inl fo))), (h0, .inr (0, [.ref a1, .ref a2, .int (nI u267.2.1), .int (nI u267.2.2), .int (nI kw), .int (nI kh)])), (a1, .inl (cA, 4096, .inl u267.1)), (a2, .inl (cB, 4096, .inl g))]) (w1 := [(o, .inr (1, [.int (nI 0), .int (nI u277.2.2.1), .int (nI u277.2.2.2), .int (nI kw), .int (nI kh), .ref b1, .ref b2, .ref b3])), (b1, .inl (cC, 4096, .inl u277.1)), (b2, .inl (cD, 4096, .inl g2)), (b3, .inl (cE, 4096, .inl u277.2.1))]) hP hD [0, 1, 2, 3] [4, 5, 6, 7] rfl rfl (by decide) (by decide) hk1 hFc hP1 hD1
  generalize H1 = H at hP hS ⊢
  have hP : va_P (dC, dI) vwCm [(q3, .inl (cJ, 1, .inr (.inl fo))), (h0, .inr (0, [.ref a1, .ref a2, .int (nI u267.2.1), .int (nI u267.2.2), .int (nI kw), .int (nI kh)])), (a1, .inl (cA, 4096, .inl u267.1)), (a2, .inl (cB, 4096, .inl g)), (o, .inr (1, [.int (nI 0), .int (nI u277.2.2.1), .int (nI u277.2.2.2), .int (nI kw), .int (nI kh), .ref b1, .ref b2, .ref b3])), (b1, .inl (cC, 4096, .inl u277.1)), (b2, .inl (cD, 4096, .inl g2)), (b3, .inl (cE, 4096, .inl u277.2.1))] H := hP
  have hD : va_D (fun q : Nat => s.heap.size ≤ q) [(q3, .inl (cJ, 1, .inr (.inl fo))), (h0, .inr (0, [.ref a1, .ref a2, .int (nI u267.2.1), .int (nI u267.2.2), .int (nI kw), .int (nI kh)])), (a1, .inl (cA, 4096, .inl u267.1)), (a2, .inl (cB, 4096, .inl g)), (o, .inr (1, [.int (nI 0), .int (nI u277.2.2.1), .int (nI u277.2.2.2), .int (nI kw), .int (nI kh), .ref b1, .ref b2, .ref b3])), (b1, .inl (cC, 4096, .inl u277.1)), (b2, .inl (cD, 4096, .inl g2)), (b3, .inl (cE, 4096, .inl u277.2.1))] := hD
  obtain ⟨e1, e2, e3⟩ := w267
  obtain ⟨e4, e5, e6⟩ := w277
  have q1 : u277.2.2.1 = u267.2.1 := e4.trans e1.symm
  have q2 : u277.2.2.2 = u267.2.2 := e5.trans e2.symm
  rw [q1, q2] at hP hD e6
  have hP : va_P (dC, dI) vwCm [(q3, .inl (cJ, 1, .inr (.inl fo))), (h0, .inr (0, [.ref a1, .ref a2, .int (nI u267.2.1), .int (nI u267.2.2), .int (nI kw), .int (nI kh)])), (a1, .inl (cA, 4096, .inl u267.1)), (a2, .inl (cB, 4096, .inl g)), (o, .inr (1, [.int (nI 0), .int (nI u267.2.1), .int (nI u267.2.2), .int (nI kw), .int (nI kh), .ref b1, .ref b2, .ref b3])), (b1, .inl (cC, 4096, .inl u277.1)), (b2, .inl (cD, 4096, .inl g2)), (b3, .inl (cE, 4096, .inl u277.2.1))] H := hP
  have hD : va_D (fun q : Nat => s.heap.size ≤ q) [(q3, .inl (cJ, 1, .inr (.inl fo))), (h0, .inr (0, [.ref a1, .ref a2, .int (nI u267.2.1), .int (nI u267.2.2), .int (nI kw), .int (nI kh)])), (a1, .inl (cA, 4096, .inl u267.1)), (a2, .inl (cB, 4096, .inl g)), (o, .inr (1, [.int (nI 0), .int (nI u267.2.1), .int (nI u267.2.2), .int (nI kw), .int (nI kh), .ref b1, .ref b2, .ref b3])), (b1, .inl (cC, 4096, .inl u277.1)), (b2, .inl (cD, 4096, .inl g2)), (b3, .inl (cE, 4096, .inl u277.2.1))] := hD
  have z := cf_tu_ag (cf_qn (xs (i + 1))) w h hag
  rw [← e1, ← e2] at z
  have gb1 := lw_if e1 ⟨hh1, hh⟩ ⟨hw1, hw⟩
  have gb2 := lw_if e2 ⟨hw1, hw⟩ ⟨hh1, hh⟩
  refine lv_goto (tgt := 631) hx hb dL_law_280 (by decide) ?_
  refine W.widen (k := ca + 1) (n := sl + 6) (by omega) (by omega) ?_
  exact kk u267.1 g u277.1 g2 u277.2.1 (nI 0) fo u267.2.1 u267.2.2 kw kh H locs ls ⟨⟨gb1.1, gb1.2, gb2.1, gb2.2, hkw1, hkw, hkh1, hkh⟩, (e3.tr (z.tr e6.sy)), hkg⟩ (hP.sub [1, 2, 3, 4, 5, 6, 7, 0] rfl) (hD.sub [1, 2, 3, 4, 5, 6, 7, 0] (by decide) rfl) hS (lv_sub hl [0, 1, 2, 3, 4] rfl)
