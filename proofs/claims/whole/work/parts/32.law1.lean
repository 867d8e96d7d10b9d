set_option maxHeartbeats 4000000 in
set_option maxRecDepth 100000 in
/-- the law's case 0 -/
theorem lc_0 {p : Program} {l : Launch} {e : Env} {s : State} {m : MethodId} {below : List Frame} {meth : Method} {c : Code} {dC : Nat → ClassId} {dI : Nat → Nat → Nat} {h0 a1 a2 : Nat} {cA cB : ClassId} {o b1 b2 b3 : Nat} {cC cD cE : ClassId} {q3 : Nat} {cJ : ClassId} {b L i ca sl sa1 sa2 sa3 : Nat} {xs : Nat → Int32} (htr : l.stackTraces = false) (C0 : lw_At p s m meth c b L xs) (hL : L ≤ 2562) (hi : i + 5 ≤ L) (hca : ca + 1 ≤ 1035) (hsl : sl + 6 ≤ 28705) (hK : va_K (dC, dI) vwCm [(cA, .int), (cB, .int), (cC, .int), (cD, .int), (cE, .int), (cJ, .long)] s) (hXf : cf_Xf sa1 sa2 sa3 s) (hNc : va_Nc "java/lang/IllegalArgumentException" "java/lang/IndexOutOfBoundsException" s) (hZf : cf_Zf (fun q : Nat => s.heap.size ≤ q) s s.heap) (kk : lw_K p l e s m below meth c dC dI h0 a1 a2 cA cB o b1 b2 b3 cC cD cE q3 cJ b 631 i (ca + 1) (sl + 6)) : lw_K p l e s m below meth c dC dI h0 a1 a2 cA cB o b1 b2 b3 cC cD cE q3 cJ b 132 i ca sl := by
  obtain ⟨hx, hb, hr, hml, hown, hts, hX, hbl, hlocks, hgv⟩ := C0
  have hown : s.vm.findClass RL = some m.cls := hown
  have htsX : ∀ w ∈ wsL_law, w.before #[Value.ref b] s = true := fun w h => hts w (wsL_law_in w h)
  have htsY : ∀ w ∈ wsLy, w.before #[Value.ref b] s = true := fun w h => hts w (wsLy_in w h)
  have hA : ∀ q : Nat, s.heap.size ≤ q → (fun q : Nat => s.heap.size ≤ q) q := fun _ h => h
  have hbA : ¬ (fun q : Nat => s.heap.size ≤ q) b := Nat.not_le.mpr hbl
  intro f g f2 g2 md th fo w h kw kh H locs ls hok hP hD hS hl
  obtain ⟨⟨hw1, hw, hh1, hh, hkw1, hkw, hkh1, hkh⟩, hag, hkg⟩ := hok
  refine lv_aload_n hx hb dL_law_132 rfl (lv_at hl 1 rfl) ?_
  refine lv_aload_n hx hb dL_law_133 rfl (lv_at hl 0 rfl) ?_
  refine lv_iload hx hb dL_law_134 (lv_at hl 4 rfl) ?_
  refine lv_iconst (v := nI 1) hx hb dL_law_136 (by decide +kernel) ?_
  refine lv_iadd hx hb dL_law_137 ?_
  refine cf_top (nI_add _ _) ?_
  refine va_sld hx hb hX hbl hbA hS (by first | assumption | exact vp_in_nI (by omega) (by omega)) dL_law_138 ?_
  refine cf_top (show xs (nI (i + 1)).toNatClampNeg = xs (i + 1) by rw [nI_clamp (by omega)]) ?_
  refine lv_aload_n hx hb dL_law_139 rfl (lv_at hl 0 rfl) ?_
  refine lv_iload hx hb dL_law_140 (lv_at hl 4 rfl) ?_
  refine lv_iconst (v := nI 2) hx hb dL_law_142 (by decide +kernel) ?_
  refine lv_iadd hx hb dL_law_143 ?_
  refine cf_top (nI_add _ _) ?_
  refine va_sld hx hb hX hbl hbA hS (by first | assumption | exact vp_in_nI (by omega) (by omega)) dL_law_144 ?_
  refine cf_top (show xs (nI (i + 2)).toNatClampNeg = xs (i + 2) by rw [nI_clamp (by omega)]) ?_
  refine lv_aload_n hx hb dL_law_145 rfl (lv_at hl 0 rfl) ?_
  refine lv_iload hx hb dL_law_146 (lv_at hl 4 rfl) ?_
  refine lv_iconst (v := nI 3) hx hb dL_law_148 (by decide +kernel) ?_
  refine lv_iadd hx hb dL_law_149 ?_
  refine cf_top (nI_add _ _) ?_
  refine va_sld hx hb hX hbl hbA hS (by first | assumption | exact vp_in_nI (by omega) (by omega)) dL_law_150 ?_
  refine cf_top (show xs (nI (i + 3)).toNatClampNeg = xs (i + 3) by rw [nI_clamp (by omega)]) ?_
  refine lv_aload_n hx hb dL_law_151 rfl (lv_at hl 0 rfl) ?_
  refine lv_iload hx hb dL_law_152 (lv_at hl 4 rfl) ?_
  refine lv_iconst (v := nI 4) hx hb dL_law_154 (by decide +kernel) ?_
  refine lv_iadd hx hb dL_law_155 ?_
  refine cf_top (nI_add _ _) ?_
  refine va_sld hx hb hX hbl hbA hS (by first | assumption | exact vp_in_nI (by omega) (by omega)) dL_law_156 ?_
  refine cf_top (show xs (nI (i + 4)).toNatClampNeg = xs (i + 4) by rw [nI_clamp (by omega)]) ?_
  have hPc := hP.sub (ws' := [(h0, .inr (0, [.ref a1, .ref a2, .int (nI w), .int (nI h), .int (nI kw), .int (nI kh)])), (a1, .inl (cA, 4096, .inl f)), (a2, .inl (cB, 4096, .inl g))]) [0, 1, 2] rfl
  have hKc := hK.sub (tys' := [(cA, .int), (cB, .int)]) [0, 1] rfl
  have hDc := hD.sub (ws' := [(h0, .inr (0, [.ref a1, .ref a2, .int (nI w), .int (nI h), .int (nI kw), .int (nI kh)])), (a1, .inl (cA, 4096, .inl f)), (a2, .inl (cB, 4096, .inl g))]) [0, 1, 2] (by decide) rfl
  have hFc := va_free (wc := [(h0, .inr (0, [.ref a1, .ref a2, .int (nI w), .int (nI h), .int (nI kw), .int (nI kh)])), (a1, .inl (cA, 4096, .inl f)), (a2, .inl (cB, 4096, .inl g))]) hD hS hA [0, 1, 2] rfl
  have hZc : cf_Zf (va_A [(h0, .inr (0, [.ref a1, .ref a2, .int (nI w), .int (nI h), .int (nI kw), .int (nI kh)])), (a1, .inl (cA, 4096, .inl f)), (a2, .inl (cB, 4096, .inl g))] H.size) s H := (hZf.kept (fun a h1 h2 => hS.2.1 a h1 h2)).narrow hFc
  refine va_calli (vx_runSW (hh := [(0, 9, 12, 13), (0, 9, 16, 15)]) (As := [.ref h0, .int (xs (i + 1)), .int (xs (i + 2)), .int (xs (i + 3)), .int (xs (i + 4))]) (rest := []) ⟨hx, hb, hml, hown, htsX⟩ (kL_put l dC dI H.size h0 a1 a2 cA cB f g w h kw kh (xs (i + 1)) (xs (i + 2)) (xs (i + 3)) (xs (i + 4)) sa1 sa2 sa3 (by omega) (by omega) htr) (vx_cwSW 5 htsX gL_law_L_put rfl rfl rfl (by decide +kernel) ⟨Nat.le_of_ble_eq_true rfl, Nat.le_of_ble_eq_true rfl⟩) ⟨fun a U g mk q => by obtain ⟨q0, q1, qP, qK, qD, ⟨qX, qN⟩, qZ⟩ := q; exact ⟨q0, q1, qP, va_K.moved (u := U) (U := U.calling g mk a) (Vm.Alike.refl U.vm) qK, qD, ⟨cf_Xf.same (u := U) (U := U.calling g mk a) rfl qX, va_Nc.moved (u := U) (U := U.calling g mk a) (Vm.Alike.refl U.vm) qN⟩, cf_Zf.moved (u := U) (U := U.calling g mk a) (Vm.Alike.refl U.vm) qZ⟩, fun U hU hW => ⟨rfl, by rw [hU], by rw [hU]; exact hPc, va_K.moved hW.alike hKc, hDc.weaken (fun _ _ _ _ => trivial), ⟨hXf.warm hW, hNc.moved hW.alike⟩, by rw [hU]; exact hZc.moved hW.alike⟩⟩ rfl rfl hl.1 rfl (lv_room (Nat.le_of_ble_eq_true rfl)) dL_law_157 ⟨(show _ ≤ 1035 by omega), (show _ ≤ 28705 by omega)⟩) hS (fun q _ h => hFc q h) hFc (fun r157 u157 t H1 locs ht hvm w157 hB hz1 hk1 hS => ?_)
  obtain ⟨hP1, -, hD1⟩ := hB
  rw [ht] at hP1
  try dsimp only at w157
  obtain ⟨hP, hD⟩ := va_join (wr := [(o, .inr (1, [.int th, .int (nI w), .int (nI h), .int (nI kw), .int (nI kh), .ref b1, .ref b2, .ref b3])), (b1, .inl (cC, 4096, .inl f2)), (b2, .inl (cD, 4096, .inl g2)), (b3, .inl (cE, 4096, .inl md)), (q3, .inl (cJ, 1, .inr (.inl fo)))]) (w1 := [(h0, .inr (0, [.ref a1, .ref a2, .int (nI w), .int (nI h), .int (nI kw), .int (nI kh)])), (a1, .inl (cA, 4096, .inl u157)), (a2, .inl (cB, 4096, .inl g))]) hP hD [0, 1, 2] [3, 4, 5, 6, 7] rfl rfl (by decide) (by decide) hk1 hFc hP1 hD1
  generalize H1 = H at hP hS ⊢
  have hP : va_P (dC, dI) vwCm [(o, .inr (1, [.int th, .int (nI w), .int (nI h), .int (nI kw), .int (nI kh), .ref b1, .ref b2, .ref b3])), (b1, .inl (cC, 4096, .inl f2)), (b2, .inl (cD, 4096, .inl g2)), (b3, .inl (cE, 4096, .inl md)), (q3, .inl (cJ, 1, .inr (.inl fo))), (h0, .inr (0, [.ref a1, .ref a2, .int (nI w), .int (nI h), .int (nI kw), .int (nI kh)])), (a1, .inl (cA, 4096, .inl u157)), (a2, .inl (cB, 4096, .inl g))] H := hP
  have hD : va_D (fun q : Nat => s.heap.size ≤ q) [(o, .inr (1, [.int th, .int (nI w), .int (nI h), .int (nI kw), .int (nI kh), .ref b1, .ref b2, .ref b3])), (b1, .inl (cC, 4096, .inl f2)), (b2, .inl (cD, 4096, .inl g2)), (b3, .inl (cE, 4096, .inl md)), (q3, .inl (cJ, 1, .inr (.inl fo))), (h0, .inr (0, [.ref a1, .ref a2, .int (nI w), .int (nI h), .int (nI kw), .int (nI kh)])), (a1, .inl (cA, 4096, .inl u157)), (a2, .inl (cB, 4096, .inl g))] := hD
  refine lv_istore (lv' := [(5, .int r157), (0, .ref b), (1, .ref h0), (2, .ref o), (3, .ref q3), (4, .int (nI i))]) hx hb dL_law_160 hl (by decide) rfl (fun ls hl => ?_)
  refine lv_aload_n hx hb dL_law_162 rfl (lv_at hl 3 rfl) ?_
  refine lv_aload_n hx hb dL_law_163 rfl (lv_at hl 1 rfl) ?_
  refine lv_iload hx hb dL_law_164 (lv_at hl 5 rfl) ?_
  refine lv_iconst (v := nI 1) hx hb dL_law_166 (by decide +kernel) ?_
  refine lv_iadd hx hb dL_law_167 ?_
  refine cf_top (nI_add _ _) ?_
  refine va_sld hx hb hX hbl hbA hS (by first | assumption | exact vp_in_nI (by omega) (by omega)) dL_law_168 ?_
  refine cf_top (show xs (nI (i + 1)).toNatClampNeg = xs (i + 1) by rw [nI_clamp (by omega)]) ?_
  refine lv_aload_n hx hb dL_law_169 rfl (lv_at hl 1 rfl) ?_
  refine lv_iload hx hb dL_law_170 (lv_at hl 5 rfl) ?_
  refine lv_iconst (v := nI 2) hx hb dL_law_172 (by decide +kernel) ?_
  refine lv_iadd hx hb dL_law_173 ?_
  refine cf_top (nI_add _ _) ?_
  refine va_sld hx hb hX hbl hbA hS (by first | assumption | exact vp_in_nI (by omega) (by omega)) dL_law_174 ?_
  refine cf_top (show xs (nI (i + 2)).toNatClampNeg = xs (i + 2) by rw [nI_clamp (by omega)]) ?_
  refine lv_aload_n hx hb dL_law_175 rfl (lv_at hl 1 rfl) ?_
  refine lv_iload hx hb dL_law_176 (lv_at hl 5 rfl) ?_
  refine lv_iconst (v := nI 3) hx hb dL_law_178 (by decide +kernel) ?_
  refine lv_iadd hx hb dL_law_179 ?_
  refine cf_top (nI_add _ _) ?_
  refine va_sld hx hb hX hbl hbA hS (by first | assumption | exact vp_in_nI (by omega) (by omega)) dL_law_180 ?_
  refine cf_top (show xs (nI (i + 3)).toNatClampNeg = xs (i + 3) by rw [nI_clamp (by omega)]) ?_
  refine lv_aload_n hx hb dL_law_181 rfl (lv_at hl 1 rfl) ?_
  refine lv_iload hx hb dL_law_182 (lv_at hl 5 rfl) ?_
  refine lv_iconst (v := nI 4) hx hb dL_law_184 (by decide +kernel) ?_
  refine lv_iadd hx hb dL_law_185 ?_
  refine cf_top (nI_add _ _) ?_
  refine va_sld hx hb hX hbl hbA hS (by first | assumption | exact vp_in_nI (by omega) (by omega)) dL_law_186 ?_
  refine cf_top (show xs (nI (i + 4)).toNatClampNeg = xs (i + 4) by rw [nI_clamp (by omega)]) ?_
  have hPc := hP.sub (ws' := [(o, .inr (1, [.int th, .int (nI w), .int (nI h), .int (nI kw), .int (nI kh), .ref b1, .ref b2, .ref b3])), (b1, .inl (cC, 4096, .inl f2)), (b2, .inl (cD, 4096, .inl g2)), (b3, .inl (cE, 4096, .inl md))]) [0, 1, 2, 3] rfl
  have hKc := hK.sub (tys' := [(cC, .int), (cD, .int), (cE, .int)]) [2, 3, 4] rfl
  have hDc := hD.sub (ws' := [(o, .inr (1, [.int th, .int (nI w), .int (nI h), .int (nI kw), .int (nI kh), .ref b1, .ref b2, .ref b3])), (b1, .inl (cC, 4096, .inl f2)), (b2, .inl (cD, 4096, .inl g2)), (b3, .inl (cE, 4096, .inl md))]) [0, 1, 2, 3] (by decide) rfl
  have hFc := va_free (wc := [(o, .inr (1, [.int th, .int (nI w), .int (nI h), .int (nI kw), .int (nI kh), .ref b1, .ref b2, .ref b3])), (b1, .inl (cC, 4096, .inl f2)), (b2, .inl (cD, 4096, .inl g2)), (b3, .inl (cE, 4096, .inl md))]) hD hS hA [0, 1, 2, 3] rfl
  refine va_callv (va_runV (As := [.int (xs (i + 1)), .int (xs (i + 2)), .int (xs (i + 3)), .int (xs (i + 4))]) (rest := []) ⟨hx, hb, hml, hown, htsY⟩ (kY1_put l dC dI H.size o b1 b2 b3 cC cD cE f2 g2 md th w h kw kh (xs (i + 1)) (xs (i + 2)) (xs (i + 3)) (xs (i + 4)) (by omega) (by omega)) (cwV 4 htsY gL_law_Y1_put rfl rfl rfl (by decide +kernel) ⟨Nat.le_of_ble_eq_true rfl, Nat.le_of_ble_eq_true rfl⟩) ⟨fun a U g mk q => by obtain ⟨q0, q1, qP, qK, qD⟩ := q; exact ⟨q0, q1, qP, va_K.moved (u := U) (U := U.calling g mk a) (Vm.Alike.refl U.vm) qK, qD⟩, va_recv hKc hPc (ci := 1) (q0 := 0) rfl rfl, fun U hU hW => ⟨rfl, by rw [hU], by rw [hU]; exact hPc, va_K.moved hW.alike hKc, hDc.weaken (fun _ _ _ _ => trivial)⟩⟩ rfl rfl hl.1 rfl (lv_room (Nat.le_of_ble_eq_true rfl)) dL_law_187 ⟨(show _ ≤ 1035 by omega), (show _ ≤ 28705 by omega)⟩) hS (fun q _ h => hFc q h) hFc (fun u187 t H1 locs ht hvm w187 hB hz1 hk1 hS => ?_)
  obtain ⟨hP1, -, hD1⟩ := hB
  rw [ht] at hP1
  try dsimp only at w187
  obtain ⟨hP, hD⟩ := va_join (wr := [(q3, .inl (cJ, 1, .inr (.inl fo))), (h0, .inr (0, [.ref a1, .ref a2, .int (nI w), .int (nI h), .int (nI kw), .int (nI kh)])), (a1, .inl (cA, 4096, .inl u157)), (a2, .inl (cB, 4096, .inl g))]) (w1 := [(o, .inr (1, [.int u187.2, .int (nI w), .int (nI h), .int (nI kw), .int (nI kh), .ref b1, .ref b2, .ref b3])), (b1, .inl (cC, 4096, .inl u187.1)), (b2, .inl (cD, 4096, .inl g2)), (b3, .inl (cE, 4096, .inl md))]) hP hD [0, 1, 2, 3] [4, 5, 6, 7] rfl rfl (by decide) (by decide) hk1 hFc hP1 hD1
  generalize H1 = H at hP hS ⊢
  have hP : va_P (dC, dI) vwCm [(q3, .inl (cJ, 1, .inr (.inl fo))), (h0, .inr (0, [.ref a1, .ref a2, .int (nI w), .int (nI h), .int (nI kw), .int (nI kh)])), (a1, .inl (cA, 4096, .inl u157)), (a2, .inl (cB, 4096, .inl g)), (o, .inr (1, [.int u187.2, .int (nI w), .int (nI h), .int (nI kw), .int (nI kh), .ref b1, .ref b2, .ref b3])), (b1, .inl (cC, 4096, .inl u187.1)), (b2, .inl (cD, 4096, .inl g2)), (b3, .inl (cE, 4096, .inl md))] H := hP
  have hD : va_D (fun q : Nat => s.heap.size ≤ q) [(q3, .inl (cJ, 1, .inr (.inl fo))), (h0, .inr (0, [.ref a1, .ref a2, .int (nI w), .int (nI h), .int (nI kw), .int (nI kh)])), (a1, .inl (cA, 4096, .inl u157)), (a2, .inl (cB, 4096, .inl g)), (o, .inr (1, [.int u187.2, .int (nI w), .int (nI h), .int (nI kw), .int (nI kh), .ref b1, .ref b2, .ref b3])), (b1, .inl (cC, 4096, .inl u187.1)), (b2, .inl (cD, 4096, .inl g2)), (b3, .inl (cE, 4096, .inl md))] := hD
  refine lv_aload_n hx hb dL_law_190 rfl (lv_at hl 3 rfl) ?_
  have hPc := hP.sub (ws' := [(o, .inr (1, [.int u187.2, .int (nI w), .int (nI h), .int (nI kw), .int (nI kh), .ref b1, .ref b2, .ref b3])), (b1, .inl (cC, 4096, .inl u187.1)), (b2, .inl (cD, 4096, .inl g2)), (b3, .inl (cE, 4096, .inl md))]) [4, 5, 6, 7] rfl
  have hKc := hK.sub (tys' := [(cC, .int), (cD, .int), (cE, .int)]) [2, 3, 4] rfl
  refine vp_callSi (W.runV (As := []) (rest := []) ⟨hx, hb, hml, hown, htsY⟩ (kY1_thrown l dC dI o b1 b2 b3 cC cD cE u187.1 g2 md u187.2 w h kw kh) (cwV 0 htsY gL_law_Y1_thrown rfl rfl rfl (by decide +kernel) ⟨Nat.le_of_ble_eq_true rfl, Nat.le_of_ble_eq_true rfl⟩) ⟨fun a U g mk q => by obtain ⟨q0, qP, qK⟩ := q; exact ⟨q0, qP, va_K.moved (u := U) (U := U.calling g mk a) (Vm.Alike.refl U.vm) qK⟩, va_recv hKc hPc (ci := 1) (q0 := 0) rfl rfl, fun U hU hW => ⟨rfl, by rw [hU]; exact hPc, va_K.moved hW.alike hKc⟩⟩ rfl rfl hl.1 rfl (lv_room (Nat.le_of_ble_eq_true rfl)) dL_law_191 ⟨(show _ ≤ 1035 by omega), (show _ ≤ 28705 by omega)⟩) (fun r191 w191 => ?_)
  subst w191
  refine lv_iload hx hb dL_law_194 (lv_at hl 0 rfl) ?_
  refine lv_icmp_eq (tgt := 201) hx hb dL_law_196 (by decide) (fun c196 => ?_) (fun c196 => ?_)
  · skip
    refine lv_goto (tgt := 631) hx hb dL_law_201 (by decide) ?_
    refine W.widen (k := ca + 1) (n := sl + 6) (by omega) (by omega) ?_
    exact kk u157 g u187.1 g2 md u187.2 fo w h kw kh H locs ls ⟨⟨hw1, hw, hh1, hh, hkw1, hkw, hkh1, hkh⟩, (w157.2.tr ((cf_pu_ag hag).tr w187.2.sy)), hkg⟩ (hP.sub [1, 2, 3, 4, 5, 6, 7, 0] rfl) (hD.sub [1, 2, 3, 4, 5, 6, 7, 0] (by decide) rfl) hS (lv_sub hl [1, 2, 3, 4, 5] rfl)
  · skip
    exact absurd (w187.1.trans w157.1.symm) c196
set_option maxHeartbeats 4000000 in
set_option maxRecDepth 100000 in
/-- the law's case 1 -/
theorem lc_1 {p : Program} {l : Launch} {e : Env} {s : State} {m : MethodId} {below : List Frame} {meth : Method} {c : Code} {dC : Nat → ClassId} {dI : Nat → Nat → Nat} {h0 a1 a2 : Nat} {cA cB : ClassId} {o b1 b2 b3 : Nat} {cC cD cE : ClassId} {q3 : Nat} {cJ : ClassId} {b L i ca sl sa1 sa2 sa3 : Nat} {xs : Nat → Int32} (htr : l.stackTraces = false) (C0 : lw_At p s m meth c b L xs) (hL : L ≤ 2562) (hi : i + 5 ≤ L) (hca : ca + 1 ≤ 1035) (hsl : sl + 6 ≤ 28705) (hK : va_K (dC, dI) vwCm [(cA, .int), (cB, .int), (cC, .int), (cD, .int), (cE, .int), (cJ, .long)] s) (hXf : cf_Xf sa1 sa2 sa3 s) (hNc : va_Nc "java/lang/IllegalArgumentException" "java/lang/IndexOutOfBoundsException" s) (hZf : cf_Zf (fun q : Nat => s.heap.size ≤ q) s s.heap) (kk : lw_K p l e s m below meth c dC dI h0 a1 a2 cA cB o b1 b2 b3 cC cD cE q3 cJ b 631 i (ca + 1) (sl + 6)) : lw_K p l e s m below meth c dC dI h0 a1 a2 cA cB o b1 b2 b3 cC cD cE q3 cJ b 204 i ca sl := by
  obtain ⟨hx, hb, hr, hml, hown, hts, hX, hbl, hlocks, hgv⟩ := C0
  have hown : s.vm.findClass RL = some m.cls := hown
  have htsX : ∀ w ∈ wsL_law, w.before #[Value.ref b] s = true := fun w h => hts w (wsL_law_in w h)
  have htsY : ∀ w ∈ wsLy, w.before #[Value.ref b] s = true := fun w h => hts w (wsLy_in w h)
  have hA : ∀ q : Nat, s.heap.size ≤ q → (fun q : Nat => s.heap.size ≤ q) q := fun _ h => h
  have hbA : ¬ (fun q : Nat => s.heap.size ≤ q) b := Nat.not_le.mpr hbl
  intro f g f2 g2 md th fo w h kw kh H locs ls hok hP hD hS hl
  obtain ⟨⟨hw1, hw, hh1, hh, hkw1, hkw, hkh1, hkh⟩, hag, hkg⟩ := hok
  refine lv_aload_n hx hb dL_law_204 rfl (lv_at hl 1 rfl) ?_
  refine lv_aload_n hx hb dL_law_205 rfl (lv_at hl 0 rfl) ?_
  refine lv_iload hx hb dL_law_206 (lv_at hl 4 rfl) ?_
  refine lv_iconst (v := nI 1) hx hb dL_law_208 (by decide +kernel) ?_
  refine lv_iadd hx hb dL_law_209 ?_
  refine cf_top (nI_add _ _) ?_
  refine va_sld hx hb hX hbl hbA hS (by first | assumption | exact vp_in_nI (by omega) (by omega)) dL_law_210 ?_
  refine cf_top (show xs (nI (i + 1)).toNatClampNeg = xs (i + 1) by rw [nI_clamp (by omega)]) ?_
  have hPc := hP.sub (ws' := [(h0, .inr (0, [.ref a1, .ref a2, .int (nI w), .int (nI h), .int (nI kw), .int (nI kh)])), (a1, .inl (cA, 4096, .inl f)), (a2, .inl (cB, 4096, .inl g))]) [0, 1, 2] rfl
  have hKc := hK.sub (tys' := [(cA, .int), (cB, .int)]) [0, 1] rfl
  have hDc := hD.sub (ws' := [(h0, .inr (0, [.ref a1, .ref a2, .int (nI w), .int (nI h), .int (nI kw), .int (nI kh)])), (a1, .inl (cA, 4096, .inl f)), (a2, .inl (cB, 4096, .inl g))]) [0, 1, 2] (by decide) rfl
  have hFc := va_free (wc := [(h0, .inr (0, [.ref a1, .ref a2, .int (nI w), .int (nI h), .int (nI kw), .int (nI kh)])), (a1, .inl (cA, 4096, .inl f)), (a2, .inl (cB, 4096, .inl g))]) hD hS hA [0, 1, 2] rfl
  refine va_callv (va_runV (As := [.int (xs (i + 1))]) (rest := []) ⟨hx, hb, hml, hown, htsX⟩ (kX0_fill l dC dI H.size h0 a1 a2 cA cB f g w h kw kh (xs (i + 1)) hw hh) (cwV 1 htsX gL_law_X0_fill rfl rfl rfl (by decide +kernel) ⟨Nat.le_of_ble_eq_true rfl, Nat.le_of_ble_eq_true rfl⟩) ⟨fun a U g mk q => by obtain ⟨q0, q1, qP, qK, qD⟩ := q; exact ⟨q0, q1, qP, va_K.moved (u := U) (U := U.calling g mk a) (Vm.Alike.refl U.vm) qK, qD⟩, va_recv hKc hPc (ci := 0) (q0 := 0) rfl rfl, fun U hU hW => ⟨rfl, by rw [hU], by rw [hU]; exact hPc, va_K.moved hW.alike hKc, hDc.weaken (fun _ _ _ _ => trivial)⟩⟩ rfl rfl hl.1 rfl (lv_room (Nat.le_of_ble_eq_true rfl)) dL_law_211 ⟨(show _ ≤ 1035 by omega), (show _ ≤ 28705 by omega)⟩) hS (fun q _ h => hFc q h) hFc (fun u211 t H1 locs ht hvm w211 hB hz1 hk1 hS => ?_)
  obtain ⟨hP1, -, hD1⟩ := hB
  rw [ht] at hP1
  try dsimp only at w211
  obtain ⟨hP, hD⟩ := va_join (wr := [(o, .inr (1, [.int th, .int (nI w), .int (nI h), .int (nI kw), .int (nI kh), .ref b1, .ref b2, .ref b3])), (b1, .inl (cC, 4096, .inl f2)), (b2, .inl (cD, 4096, .inl g2)), (b3, .inl (cE, 4096, .inl md)), (q3, .inl (cJ, 1, .inr (.inl fo)))]) (w1 := [(h0, .inr (0, [.ref a1, .ref a2, .int (nI w), .int (nI h), .int (nI kw), .int (nI kh)])), (a1, .inl (cA, 4096, .inl u211)), (a2, .inl (cB, 4096, .inl g))]) hP hD [0, 1, 2] [3, 4, 5, 6, 7] rfl rfl (by decide) (by decide) hk1 hFc hP1 hD1
  generalize H1 = H at hP hS ⊢
  have hP : va_P (dC, dI) vwCm [(o, .inr (1, [.int th, .int (nI w), .int (nI h), .int (nI kw), .int (nI kh), .ref b1, .ref b2, .ref b3])), (b1, .inl (cC, 4096, .inl f2)), (b2, .inl (cD, 4096, .inl g2)), (b3, .inl (cE, 4096, .inl md)), (q3, .inl (cJ, 1, .inr (.inl fo))), (h0, .inr (0, [.ref a1, .ref a2, .int (nI w), .int (nI h), .int (nI kw), .int (nI kh)])), (a1, .inl (cA, 4096, .inl u211)), (a2, .inl (cB, 4096, .inl g))] H := hP
  have hD : va_D (fun q : Nat => s.heap.size ≤ q) [(o, .inr (1, [.int th, .int (nI w), .int (nI h), .int (nI kw), .int (nI kh), .ref b1, .ref b2, .ref b3])), (b1, .inl (cC, 4096, .inl f2)), (b2, .inl (cD, 4096, .inl g2)), (b3, .inl (cE, 4096, .inl md)), (q3, .inl (cJ, 1, .inr (.inl fo))), (h0, .inr (0, [.ref a1, .ref a2, .int (nI w), .int (nI h), .int (nI kw), .int (nI kh)])), (a1, .inl (cA, 4096, .inl u211)), (a2, .inl (cB, 4096, .inl g))] := hD
  refine lv_aload_n hx hb dL_law_214 rfl (lv_at hl 2 rfl) ?_
  refine lv_aload_n hx hb dL_law_215 rfl (lv_at hl 0 rfl) ?_
  refine lv_iload hx hb dL_law_216 (lv_at hl 4 rfl) ?_
  refine lv_iconst (v := nI 1) hx hb dL_law_218 (by decide +kernel) ?_
  refine lv_iadd hx hb dL_law_219 ?_
  refine cf_top (nI_add _ _) ?_
  refine va_sld hx hb hX hbl hbA hS (by first | assumption | exact vp_in_nI (by omega) (by omega)) dL_law_220 ?_
  refine cf_top (show xs (nI (i + 1)).toNatClampNeg = xs (i + 1) by rw [nI_clamp (by omega)]) ?_
  have hPc := hP.sub (ws' := [(o, .inr (1, [.int th, .int (nI w), .int (nI h), .int (nI kw), .int (nI kh), .ref b1, .ref b2, .ref b3])), (b1, .inl (cC, 4096, .inl f2)), (b2, .inl (cD, 4096, .inl g2)), (b3, .inl (cE, 4096, .inl md))]) [0, 1, 2, 3] rfl
  have hKc := hK.sub (tys' := [(cC, .int), (cD, .int), (cE, .int)]) [2, 3, 4] rfl
  have hDc := hD.sub (ws' := [(o, .inr (1, [.int th, .int (nI w), .int (nI h), .int (nI kw), .int (nI kh), .ref b1, .ref b2, .ref b3])), (b1, .inl (cC, 4096, .inl f2)), (b2, .inl (cD, 4096, .inl g2)), (b3, .inl (cE, 4096, .inl md))]) [0, 1, 2, 3] (by decide) rfl
  have hFc := va_free (wc := [(o, .inr (1, [.int th, .int (nI w), .int (nI h), .int (nI kw), .int (nI kh), .ref b1, .ref b2, .ref b3])), (b1, .inl (cC, 4096, .inl f2)), (b2, .inl (cD, 4096, .inl g2)), (b3, .inl (cE, 4096, .inl md))]) hD hS hA [0, 1, 2, 3] rfl
  refine va_callv (va_runV (As := [.int (xs (i + 1))]) (rest := []) ⟨hx, hb, hml, hown, htsY⟩ (kY1_fill l dC dI H.size o b1 b2 b3 cC cD cE f2 g2 md th w h kw kh (xs (i + 1)) (by omega) (by omega)) (cwV 1 htsY gL_law_Y1_fill rfl rfl rfl (by decide +kernel) ⟨Nat.le_of_ble_eq_true rfl, Nat.le_of_ble_eq_true rfl⟩) ⟨fun a U g mk q => by obtain ⟨q0, q1, qP, qK, qD⟩ := q; exact ⟨q0, q1, qP, va_K.moved (u := U) (U := U.calling g mk a) (Vm.Alike.refl U.vm) qK, qD⟩, va_recv hKc hPc (ci := 1) (q0 := 0) rfl rfl, fun U hU hW => ⟨rfl, by rw [hU], by rw [hU]; exact hPc, va_K.moved hW.alike hKc, hDc.weaken (fun _ _ _ _ => trivial)⟩⟩ rfl rfl hl.1 rfl (lv_room (Nat.le_of_ble_eq_true rfl)) dL_law_221 ⟨(show _ ≤ 1035 by omega), (show _ ≤ 28705 by omega)⟩) hS (fun q _ h => hFc q h) hFc (fun u221 t H1 locs ht hvm w221 hB hz1 hk1 hS => ?_)
  obtain ⟨hP1, -, hD1⟩ := hB
  rw [ht] at hP1
  try dsimp only at w221
  obtain ⟨hP, hD⟩ := va_join (wr := [(q3, .inl (cJ, 1, .inr (.inl fo))), (h0, .inr (0, [.ref a1, .ref a2, .int (nI w), .int (nI h), .int (nI kw), .int (nI kh)])), (a1, .inl (cA, 4096, .inl u211)), (a2, .inl (cB, 4096, .inl g))]) (w1 := [(o, .inr (1, [.int (nI 0), .int (nI w), .int (nI h), .int (nI kw), .int (nI kh), .ref b1, .ref b2, .ref b3])), (b1, .inl (cC, 4096, .inl u221)), (b2, .inl (cD, 4096, .inl g2)), (b3, .inl (cE, 4096, .inl md))]) hP hD [0, 1, 2, 3] [4, 5, 6, 7] rfl rfl (by decide) (by decide) hk1 hFc hP1 hD1
  generalize H1 = H at hP hS ⊢
  have hP : va_P (dC, dI) vwCm [(q3, .inl (cJ, 1, .inr (.inl fo))), (h0, .inr (0, [.ref a1, .ref a2, .int (nI w), .int (nI h), .int (nI kw), .int (nI kh)])), (a1, .inl (cA, 4096, .inl u211)), (a2, .inl (cB, 4096, .inl g)), (o, .inr (1, [.int (nI 0), .int (nI w), .int (nI h), .int (nI kw), .int (nI kh), .ref b1, .ref b2, .ref b3])), (b1, .inl (cC, 4096, .inl u221)), (b2, .inl (cD, 4096, .inl g2)), (b3, .inl (cE, 4096, .inl md))] H := hP
  have hD : va_D (fun q : Nat => s.heap.size ≤ q) [(q3, .inl (cJ, 1, .inr (.inl fo))), (h0, .inr (0, [.ref a1, .ref a2, .int (nI w), .int (nI h), .int (nI kw), .int (nI kh)])), (a1, .inl (cA, 4096, .inl u211)), (a2, .inl (cB, 4096, .inl g)), (o, .inr (1, [.int (nI 0), .int (nI w), .int (nI h), .int (nI kw), .int (nI kh), .ref b1, .ref b2, .ref b3])), (b1, .inl (cC, 4096, .inl u221)), (b2, .inl (cD, 4096, .inl g2)), (b3, .inl (cE, 4096, .inl md))] := hD
  refine lv_goto (tgt := 631) hx hb dL_law_224 (by decide) ?_
  refine W.widen (k := ca + 1) (n := sl + 6) (by omega) (by omega) ?_
  exact kk u211 g u221 g2 md (nI 0) fo w h kw kh H locs ls ⟨⟨hw1, hw, hh1, hh, hkw1, hkw, hkh1, hkh⟩, (w211.tr w221.sy), hkg⟩ (hP.sub [1, 2, 3, 4, 5, 6, 7, 0] rfl) (hD.sub [1, 2, 3, 4, 5, 6, 7, 0] (by decide) rfl) hS (lv_sub hl [0, 1, 2, 3, 4] rfl)
set_option maxHeartbeats 4000000 in
set_option maxRecDepth 100000 in
/-- the law's case 2 -/
theorem lc_2 {p : Program} {l : Launch} {e : Env} {s : State} {m : MethodId} {below : List Frame} {meth : Method} {c : Code} {dC : Nat → ClassId} {dI : Nat → Nat → Nat} {h0 a1 a2 : Nat} {cA cB : ClassId} {o b1 b2 b3 : Nat} {cC cD cE : ClassId} {q3 : Nat} {cJ : ClassId} {b L i ca sl sa1 sa2 sa3 : Nat} {xs : Nat → Int32} (htr : l.stackTraces = false) (C0 : lw_At p s m meth c b L xs) (hL : L ≤ 2562) (hi : i + 5 ≤ L) (hca : ca + 1 ≤ 1035) (hsl : sl + 6 ≤ 28705) (hK : va_K (dC, dI) vwCm [(cA, .int), (cB, .int), (cC, .int), (cD, .int), (cE, .int), (cJ, .long)] s) (hXf : cf_Xf sa1 sa2 sa3 s) (hNc : va_Nc "java/lang/IllegalArgumentException" "java/lang/IndexOutOfBoundsException" s) (hZf : cf_Zf (fun q : Nat => s.heap.size ≤ q) s s.heap) (kk : lw_K p l e s m below meth c dC dI h0 a1 a2 cA cB o b1 b2 b3 cC cD cE q3 cJ b 631 i (ca + 1) (sl + 6)) : lw_K p l e s m below meth c dC dI h0 a1 a2 cA cB o b1 b2 b3 cC cD cE q3 cJ b 227 i ca sl := by
  obtain ⟨hx, hb, hr, hml, hown, hts, hX, hbl, hlocks, hgv⟩ := C0
  have hown : s.vm.findClass RL = some m.cls := hown
  have htsX : ∀ w ∈ wsL_law, w.before #[Value.ref b] s = true := fun w h => hts w (wsL_law_in w h)
  have htsY : ∀ w ∈ wsLy, w.before #[Value.ref b] s = true := fun w h => hts w (wsLy_in w h)
  have hA : ∀ q : Nat, s.heap.size ≤ q → (fun q : Nat => s.heap.size ≤ q) q := fun _ h => h
  have hbA : ¬ (fun q : Nat => s.heap.size ≤ q) b := Nat.not_le.mpr hbl
  intro f g f2 g2 md th fo w h kw kh H locs ls hok hP hD hS hl
  obtain ⟨⟨hw1, hw, hh1, hh, hkw1, hkw, hkh1, hkh⟩, hag, hkg⟩ := hok
  refine lv_aload_n hx hb dL_law_227 rfl (lv_at hl 1 rfl) ?_
  have hPc := hP.sub (ws' := [(h0, .inr (0, [.ref a1, .ref a2, .int (nI w), .int (nI h), .int (nI kw), .int (nI kh)])), (a1, .inl (cA, 4096, .inl f)), (a2, .inl (cB, 4096, .inl g))]) [0, 1, 2] rfl
  have hKc := hK.sub (tys' := [(cA, .int), (cB, .int)]) [0, 1] rfl
  have hDc := hD.sub (ws' := [(h0, .inr (0, [.ref a1, .ref a2, .int (nI w), .int (nI h), .int (nI kw), .int (nI kh)])), (a1, .inl (cA, 4096, .inl f)), (a2, .inl (cB, 4096, .inl g))]) [0, 1, 2] (by decide) rfl
  have hFc := va_free (wc := [(h0, .inr (0, [.ref a1, .ref a2, .int (nI w), .int (nI h), .int (nI kw), .int (nI kh)])), (a1, .inl (cA, 4096, .inl f)), (a2, .inl (cB, 4096, .inl g))]) hD hS hA [0, 1, 2] rfl
  refine va_callv (va_runV (As := []) (rest := []) ⟨hx, hb, hml, hown, htsX⟩ (kX0_transpose l dC dI H.size h0 a1 a2 cA cB f g w h kw kh (by omega) (by omega) (by omega) (by omega)) (cwV 0 htsX gL_law_X0_transpose rfl rfl rfl (by decide +kernel) ⟨Nat.le_of_ble_eq_true rfl, Nat.le_of_ble_eq_true rfl⟩) ⟨fun a U g mk q => by obtain ⟨q0, q1, qP, qK, qD⟩ := q; exact ⟨q0, q1, qP, va_K.moved (u := U) (U := U.calling g mk a) (Vm.Alike.refl U.vm) qK, qD⟩, va_recv hKc hPc (ci := 0) (q0 := 0) rfl rfl, fun U hU hW => ⟨rfl, by rw [hU], by rw [hU]; exact hPc, va_K.moved hW.alike hKc, hDc.weaken (fun _ _ _ _ => trivial)⟩⟩ rfl rfl hl.1 rfl (lv_room (Nat.le_of_ble_eq_true rfl)) dL_law_228 ⟨(show _ ≤ 1035 by omega), (show _ ≤ 28705 by omega)⟩) hS (fun q _ h => hFc q h) hFc (fun u228 t H1 locs ht hvm w228 hB hz1 hk1 hS => ?_)
  obtain ⟨hP1, -, hD1⟩ := hB
  rw [ht] at hP1
  try dsimp only at w228
  obtain ⟨hP, hD⟩ := va_join (wr := [(o, .inr (1, [.int th, .int (nI w), .int (nI h), .int (nI kw), .int (nI kh), .ref b1, .ref b2, .ref b3])), (b1, .inl (cC, 4096, .inl f2)), (b2, .inl (cD, 4096, .inl g2)), (b3, .inl (cE, 4096, .inl md)), (q3, .inl (cJ, 1, .inr (.inl fo)))]) (w1 := [(h0, .inr (0, [.ref a1, .ref a2, .int (nI h), .int (nI w), .int (nI kw), .int (nI kh)])), (a1, .inl (cA, 4096, .inl u228)), (a2, .inl (cB, 4096, .inl g))]) hP hD [0, 1, 2] [3, 4, 5, 6, 7] rfl rfl (by decide) (by decide) hk1 hFc hP1 hD1
  generalize H1 = H at hP hS ⊢
  have hP : va_P (dC, dI) vwCm [(o, .inr (1, [.int th, .int (nI w), .int (nI h), .int (nI kw), .int (nI kh), .ref b1, .ref b2, .ref b3])), (b1, .inl (cC, 4096, .inl f2)), (b2, .inl (cD, 4096, .inl g2)), (b3, .inl (cE, 4096, .inl md)), (q3, .inl (cJ, 1, .inr (.inl fo))), (h0, .inr (0, [.ref a1, .ref a2, .int (nI h), .int (nI w), .int (nI kw), .int (nI kh)])), (a1, .inl (cA, 4096, .inl u228)), (a2, .inl (cB, 4096, .inl g))] H := hP
  have hD : va_D (fun q : Nat => s.heap.size ≤ q) [(o, .inr (1, [.int th, .int (nI w), .int (nI h), .int (nI kw), .int (nI kh), .ref b1, .ref b2, .ref b3])), (b1, .inl (cC, 4096, .inl f2)), (b2, .inl (cD, 4096, .inl g2)), (b3, .inl (cE, 4096, .inl md)), (q3, .inl (cJ, 1, .inr (.inl fo))), (h0, .inr (0, [.ref a1, .ref a2, .int (nI h), .int (nI w), .int (nI kw), .int (nI kh)])), (a1, .inl (cA, 4096, .inl u228)), (a2, .inl (cB, 4096, .inl g))] := hD
  refine lv_aload_n hx hb dL_law_231 rfl (lv_at hl 2 rfl) ?_
  have hPc := hP.sub (ws' := [(o, .inr (1, [.int th, .int (nI w), .int (nI h), .int (nI kw), .int (nI kh), .ref b1, .ref b2, .ref b3])), (b1, .inl (cC, 4096, .inl f2)), (b2, .inl (cD, 4096, .inl g2)), (b3, .inl (cE, 4096, .inl md))]) [0, 1, 2, 3] rfl
  have hKc := hK.sub (tys' := [(cC, .int), (cD, .int), (cE, .int)]) [2, 3, 4] rfl
  have hDc := hD.sub (ws' := [(o, .inr (1, [.int th, .int (nI w), .int (nI h), .int (nI kw), .int (nI kh), .ref b1, .ref b2, .ref b3])), (b1, .inl (cC, 4096, .inl f2)), (b2, .inl (cD, 4096, .inl g2)), (b3, .inl (cE, 4096, .inl md))]) [0, 1, 2, 3] (by decide) rfl
  have hFc := va_free (wc := [(o, .inr (1, [.int th, .int (nI w), .int (nI h), .int (nI kw), .int (nI kh), .ref b1, .ref b2, .ref b3])), (b1, .inl (cC, 4096, .inl f2)), (b2, .inl (cD, 4096, .inl g2)), (b3, .inl (cE, 4096, .inl md))]) hD hS hA [0, 1, 2, 3] rfl
  refine va_callv (va_runV (As := []) (rest := []) ⟨hx, hb, hml, hown, htsY⟩ (kY1_transpose l dC dI H.size o b1 b2 b3 cC cD cE f2 g2 md th w h kw kh (by omega) (by omega) (by omega) (by omega)) (cwV 0 htsY gL_law_Y1_transpose rfl rfl rfl (by decide +kernel) ⟨Nat.le_of_ble_eq_true rfl, Nat.le_of_ble_eq_true rfl⟩) ⟨fun a U g mk q => by obtain ⟨q0, q1, qP, qK, qD⟩ := q; exact ⟨q0, q1, qP, va_K.moved (u := U) (U := U.calling g mk a) (Vm.Alike.refl U.vm) qK, qD⟩, va_recv hKc hPc (ci := 1) (q0 := 0) rfl rfl, fun U hU hW => ⟨rfl, by rw [hU], by rw [hU]; exact hPc, va_K.moved hW.alike hKc, hDc.weaken (fun _ _ _ _ => trivial)⟩⟩ rfl rfl hl.1 rfl (lv_room (Nat.le_of_ble_eq_true rfl)) dL_law_232 ⟨(show _ ≤ 1035 by omega), (show _ ≤ 28705 by omega)⟩) hS (fun q _ h => hFc q h) hFc (fun u232 t H1 locs ht hvm w232 hB hz1 hk1 hS => ?_)
  obtain ⟨hP1, -, hD1⟩ := hB
  rw [ht] at hP1
  try dsimp only at w232
  obtain ⟨hP, hD⟩ := va_join (wr := [(q3, .inl (cJ, 1, .inr (.inl fo))), (h0, .inr (0, [.ref a1, .ref a2, .int (nI h), .int (nI w), .int (nI kw), .int (nI kh)])), (a1, .inl (cA, 4096, .inl u228)), (a2, .inl (cB, 4096, .inl g))]) (w1 := [(o, .inr (1, [.int (nI 0), .int (nI h), .int (nI w), .int (nI kw), .int (nI kh), .ref b1, .ref b2, .ref b3])), (b1, .inl (cC, 4096, .inl u232.1)), (b2, .inl (cD, 4096, .inl g2)), (b3, .inl (cE, 4096, .inl u232.2))]) hP hD [0, 1, 2, 3] [4, 5, 6, 7] rfl rfl (by decide) (by decide) hk1 hFc hP1 hD1
  generalize H1 = H at hP hS ⊢
  have hP : va_P (dC, dI) vwCm [(q3, .inl (cJ, 1, .inr (.inl fo))), (h0, .inr (0, [.ref a1, .ref a2, .int (nI h), .int (nI w), .int (nI kw), .int (nI kh)])), (a1, .inl (cA, 4096, .inl u228)), (a2, .inl (cB, 4096, .inl g)), (o, .inr (1, [.int (nI 0), .int (nI h), .int (nI w), .int (nI kw), .int (nI kh), .ref b1, .ref b2, .ref b3])), (b1, .inl (cC, 4096, .inl u232.1)), (b2, .inl (cD, 4096, .inl g2)), (b3, .inl (cE, 4096, .inl u232.2))] H := hP
  have hD : va_D (fun q : Nat => s.heap.size ≤ q) [(q3, .inl (cJ, 1, .inr (.inl fo))), (h0, .inr (0, [.ref a1, .ref a2, .int (nI h), .int (nI w), .int (nI kw), .int (nI kh)])), (a1, .inl (cA, 4096, .inl u228)), (a2, .inl (cB, 4096, .inl g)), (o, .inr (1, [.int (nI 0), .int (nI h), .int (nI w), .int (nI kw), .int (nI kh), .ref b1, .ref b2, .ref b3])), (b1, .inl (cC, 4096, .inl u232.1)), (b2, .inl (cD, 4096, .inl g2)), (b3, .inl (cE, 4096, .inl u232.2))] := hD
  refine lv_goto (tgt := 631) hx hb dL_law_235 (by decide) ?_
  refine W.widen (k := ca + 1) (n := sl + 6) (by omega) (by omega) ?_
  exact kk u228 g u232.1 g2 u232.2 (nI 0) fo h w kw kh H locs ls ⟨⟨hh1, hh, hw1, hw, hkw1, hkw, hkh1, hkh⟩, (w228.tr ((cf_tr_ag hag).tr w232.sy)), hkg⟩ (hP.sub [1, 2, 3, 4, 5, 6, 7, 0] rfl) (hD.sub [1, 2, 3, 4, 5, 6, 7, 0] (by decide) rfl) hS (lv_sub hl [0, 1, 2, 3, 4] rfl)
