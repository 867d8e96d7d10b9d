set_option maxHeartbeats 4000000 in
set_option maxRecDepth 100000 in
/-- THE LAW, from its entry -/
theorem whole_start {p : Program} {e : Env} {s : State} {m : MethodId} {below : List Frame} {meth : Method} {c : Code} (l : Launch) (htr : l.stackTraces = false) {b L : Nat} {xs : Nat → Int32} (hL : L ≤ 2562) (C0 : lw_At p s m meth c b L xs) : W p l e room_1 s m #[Value.ref b] below meth c s.heap [] 0 0 (lw_Z below #[Value.ref b] s) (entryFrame m ([Value.ref b] : List Value).toArray 8) := by
  obtain ⟨hx, hb, hr, hml, hown, hts, hX, hbl, hlocks, hgv⟩ := id C0
  have hown : s.vm.findClass RL = some m.cls := hown
  have htsX : ∀ w ∈ wsL_law, w.before #[Value.ref b] s = true := fun w h => hts w (wsL_law_in w h)
  have htsY : ∀ w ∈ wsLy, w.before #[Value.ref b] s = true := fun w h => hts w (wsLy_in w h)
  have hfl := flat_of_before _ hgv
  have hA : ∀ q : Nat, s.heap.size ≤ q → (fun q : Nat => s.heap.size ≤ q) q := fun _ h => h
  have hbA : ¬ (fun q : Nat => s.heap.size ≤ q) b := Nat.not_le.mpr hbl
  obtain ⟨c0, iS0, hKn0⟩ := u_known (C := RX0) (T := TX0) (N := 6) (n := 6) hts inX0 (htsX (.instantiable RX0 6) (by decide +kernel))
  obtain ⟨c1, iS1, hKn1⟩ := u_known (C := RY1) (T := TY1) (N := 8) (n := 8) hts inY1 (htsY (.instantiable RY1 8) (by decide +kernel))
  obtain ⟨dC, dI, hKc⟩ : ∃ (dC : Nat → ClassId) (dI : Nat → Nat → Nat), ∀ (k : Nat) (q : vw_C), vwCm[k]? = some q → u_Kn s q.1 q.2.1 q.2.2 (dC k) (dI k) := by
    refine ⟨fun k => if k = 0 then c0 else c1, fun k => if k = 0 then iS0 else iS1, ?_⟩
    intro k q hq
    match k, hq with
    | 0, hq => cases hq; exact hKn0
    | 1, hq => cases hq; exact hKn1
    | k + 2, hq => simp [vwCm] at hq
  obtain ⟨sa1, sa2, sa3, hXf⟩ : ∃ sa1 sa2 sa3, cf_Xf sa1 sa2 sa3 s := lw_Xf hts hfl
  have hNc : va_Nc "java/lang/IllegalArgumentException" "java/lang/IndexOutOfBoundsException" s := va_Nc.of (hfl (.not (.castable "java/lang/IllegalArgumentException" "java/lang/IndexOutOfBoundsException")) (by decide +kernel))
  have hZf : cf_Zf (fun q : Nat => s.heap.size ≤ q) s s.heap := lw_Zf hts hfl
  have hS : va_S (fun q : Nat => s.heap.size ≤ q) s.heap s.heap [] := va_S.rf
  have hK : va_K (dC, dI) vwCm [] s := ⟨hKc, fun k q h => by simp at h⟩
  have hP : va_P (dC, dI) vwCm [] s.heap := fun k q h => by simp at h
  have hD : va_D (fun q : Nat => s.heap.size ≤ q) [] := ⟨fun i j p q h => by simp at h, fun k q h => by simp at h⟩
  have hl := lv_entry ([.ref b]) (n := 8) (Nat.le_of_ble_eq_true rfl)
  rw [lg_entry_eq]
  generalize (lg_sl ([.ref b]) ++ List.replicate (8 - (lg_sl ([.ref b])).length) Slot.unset).toArray = ls at hl ⊢
  have hl : lv_has ls 8 [(0, .ref b)] := hl
  refine va_new (ci := 0) (fs := [.null, .null, .int 0, .int 0, .int 0, .int 0]) (C := RX0) (T := TX0) (N := 6) hx hb htsX inlX0 tyX0 tyX0_ok hown (htsX (.classLink RL 8 RX0) (by decide +kernel)) (htsX (.instantiable RX0 6) (by decide +kernel)) (htsX (.initialized RX0) (by decide +kernel)) hK hP hD hS hA rfl (fun j hj => by rcases (show j = 0 ∨ j = 1 ∨ j = 2 ∨ j = 3 ∨ j = 4 ∨ j = 5 by omega) with rfl | rfl | rfl | rfl | rfl | rfl <;> rfl) (Nat.le_of_ble_eq_true rfl) (Nat.le_of_ble_eq_true rfl) dL_law_0 (fun h0 H hP hD hS => ?_)
  have hP : va_P (dC, dI) vwCm [(h0, .inr (0, [.null, .null, .int 0, .int 0, .int 0, .int 0]))] H := hP
  have hD : va_D (fun q : Nat => s.heap.size ≤ q) [(h0, .inr (0, [.null, .null, .int 0, .int 0, .int 0, .int 0]))] := hD
  refine lv_dup hx hb dL_law_3 rfl ?_
  refine lv_aload_n hx hb dL_law_4 rfl (lv_at hl 0 rfl) ?_
  refine lv_iconst (v := nI 0) hx hb dL_law_5 (by decide +kernel) ?_
  refine vp_callSi (W.runS (As := [.ref b, .int (nI 0)]) (rest := [.ref h0, .ref h0]) ⟨hx, hb, hml, hown, htsX⟩ (kL_cell l b L 0 xs hL (by omega)) (va_cwS 2 htsX gL_law_L_cell rfl rfl rfl (by decide +kernel) ⟨Nat.le_of_ble_eq_true rfl, Nat.le_of_ble_eq_true rfl⟩) ⟨fun a U g mk q => ⟨q.1, va_X.moved (u := U) (U := U.calling g mk a) (Vm.Alike.refl U.vm) q.2⟩, fun U hU hW => ⟨rfl, by show va_X b L xs U U.heap; rw [hU]; exact (hX.kept (hS.2.1 b hbl hbA)).moved hW.alike⟩⟩ rfl rfl hl.1 rfl (lv_room (Nat.le_of_ble_eq_true rfl)) dL_law_6 ⟨Nat.le_of_ble_eq_true rfl, Nat.le_of_ble_eq_true rfl⟩) (fun r6 w6 => ?_)
  refine lv_aload_n hx hb dL_law_9 rfl (lv_at hl 0 rfl) ?_
  refine lv_iconst (v := nI 1) hx hb dL_law_10 (by decide +kernel) ?_
  refine vp_callSi (W.runS (As := [.ref b, .int (nI 1)]) (rest := [.int r6, .ref h0, .ref h0]) ⟨hx, hb, hml, hown, htsX⟩ (kL_cell l b L 1 xs hL (by omega)) (va_cwS 2 htsX gL_law_L_cell rfl rfl rfl (by decide +kernel) ⟨Nat.le_of_ble_eq_true rfl, Nat.le_of_ble_eq_true rfl⟩) ⟨fun a U g mk q => ⟨q.1, va_X.moved (u := U) (U := U.calling g mk a) (Vm.Alike.refl U.vm) q.2⟩, fun U hU hW => ⟨rfl, by show va_X b L xs U U.heap; rw [hU]; exact (hX.kept (hS.2.1 b hbl hbA)).moved hW.alike⟩⟩ rfl rfl hl.1 rfl (lv_room (Nat.le_of_ble_eq_true rfl)) dL_law_11 ⟨Nat.le_of_ble_eq_true rfl, Nat.le_of_ble_eq_true rfl⟩) (fun r11 w11 => ?_)
  have hFc := va_free (wc := [(h0, .inr (0, [.null, .null, .int 0, .int 0, .int 0, .int 0]))]) hD hS hA [0] rfl
  refine va_callv (va_runI (As := [.int r6, .int r11]) (rest := [.ref h0]) ⟨hx, hb, hml, hown, htsX⟩ (kX0_init l dC dI H.size h0 r6 r11) (cwI 2 htsX gL_law_X0_init rfl rfl rfl (htsX (.initialized RX0) (by decide +kernel)) (htsX (.methodLink RL 27 yX0_init) (by decide +kernel)) (htsX (.instanceMethod yX0_init) (by decide +kernel)) rfl (by decide +kernel) ⟨Nat.le_of_ble_eq_true rfl, Nat.le_of_ble_eq_true rfl⟩) ⟨fun a U g mk q => by obtain ⟨q0, q1, qP, qK, qD⟩ := q; exact ⟨q0, q1, qP, va_K.moved (u := U) (U := U.calling g mk a) (Vm.Alike.refl U.vm) qK, qD⟩, fun U hU hW => ⟨rfl, by rw [hU], by rw [hU]; exact hP, va_K.moved hW.alike hK, hD.weaken (fun _ _ _ _ => trivial)⟩⟩ rfl rfl hl.1 rfl (lv_room (Nat.le_of_ble_eq_true rfl)) dL_law_14 ⟨Nat.le_of_ble_eq_true rfl, Nat.le_of_ble_eq_true rfl⟩) hS (fun q _ h => hFc q h) hFc (fun ux t H1 locs ht hvm wx hB hz1 hk1 hS => ?_)
  obtain ⟨a1, a2, cA, cB, hP1, hK1, hD1⟩ := hB
  rw [ht] at hP1
  have hK1 := va_K.moved hvm.symm hK1
  obtain ⟨hP, hD⟩ := va_join (wr := []) (w1 := [(h0, .inr (0, [.ref a1, .ref a2, .int (nI ux.1), .int (nI ux.2), .int (nI ux.1), .int (nI ux.2)])), (a1, .inl (cA, 4096, .inl (fun _ => 0))), (a2, .inl (cB, 4096, .inl (fun _ => 0)))]) hP hD [0] [] rfl rfl (by decide) (by decide) hk1 hFc hP1 hD1
  have hK := hK1
  generalize H1 = H at hP hS ⊢
  have hP : va_P (dC, dI) vwCm [(h0, .inr (0, [.ref a1, .ref a2, .int (nI ux.1), .int (nI ux.2), .int (nI ux.1), .int (nI ux.2)])), (a1, .inl (cA, 4096, .inl (fun _ => 0))), (a2, .inl (cB, 4096, .inl (fun _ => 0)))] H := hP
  have hD : va_D (fun q : Nat => s.heap.size ≤ q) [(h0, .inr (0, [.ref a1, .ref a2, .int (nI ux.1), .int (nI ux.2), .int (nI ux.1), .int (nI ux.2)])), (a1, .inl (cA, 4096, .inl (fun _ => 0))), (a2, .inl (cB, 4096, .inl (fun _ => 0)))] := hD
  refine W.widen (k := 3) (n := 8198) (by omega) (by omega) ?_
  refine lv_astore_n (lv' := [(1, .ref h0), (0, .ref b)]) hx hb dL_law_17 rfl hl (by decide) rfl (fun ls hl => ?_)
  refine va_new (ci := 1) (fs := [.int 0, .int 0, .int 0, .int 0, .int 0, .null, .null, .null]) (C := RY1) (T := TY1) (N := 8) hx hb htsY (fun w h => List.mem_append_left _ (List.mem_append_left _ (List.mem_append_right _ h))) tyY1 tyY1_ok hown (htsY (.classLink RL 30 RY1) (by decide +kernel)) (htsY (.instantiable RY1 8) (by decide +kernel)) (htsY (.initialized RY1) (by decide +kernel)) hK hP hD hS hA rfl (fun j hj => by rcases (show j = 0 ∨ j = 1 ∨ j = 2 ∨ j = 3 ∨ j = 4 ∨ j = 5 ∨ j = 6 ∨ j = 7 by omega) with rfl | rfl | rfl | rfl | rfl | rfl | rfl | rfl <;> rfl) (Nat.le_of_ble_eq_true rfl) (Nat.le_of_ble_eq_true rfl) dL_law_18 (fun o H hP hD hS => ?_)
  have hP : va_P (dC, dI) vwCm [(h0, .inr (0, [.ref a1, .ref a2, .int (nI ux.1), .int (nI ux.2), .int (nI ux.1), .int (nI ux.2)])), (a1, .inl (cA, 4096, .inl (fun _ => 0))), (a2, .inl (cB, 4096, .inl (fun _ => 0))), (o, .inr (1, [.int 0, .int 0, .int 0, .int 0, .int 0, .null, .null, .null]))] H := hP
  have hD : va_D (fun q : Nat => s.heap.size ≤ q) [(h0, .inr (0, [.ref a1, .ref a2, .int (nI ux.1), .int (nI ux.2), .int (nI ux.1), .int (nI ux.2)])), (a1, .inl (cA, 4096, .inl (fun _ => 0))), (a2, .inl (cB, 4096, .inl (fun _ => 0))), (o, .inr (1, [.int 0, .int 0, .int 0, .int 0, .int 0, .null, .null, .null]))] := hD
  refine lv_dup hx hb dL_law_21 rfl ?_
  refine lv_aload_n hx hb dL_law_22 rfl (lv_at hl 1 rfl) ?_
  refine lv_iconst (v := nI 0) hx hb dL_law_23 (by decide +kernel) ?_
  refine vp_callSi (W.runS (As := [.ref b, .int (nI 0)]) (rest := [.ref o, .ref o]) ⟨hx, hb, hml, hown, htsX⟩ (kL_cell l b L 0 xs hL (by omega)) (va_cwS 2 htsX gL_law_L_cell rfl rfl rfl (by decide +kernel) ⟨Nat.le_of_ble_eq_true rfl, Nat.le_of_ble_eq_true rfl⟩) ⟨fun a U g mk q => ⟨q.1, va_X.moved (u := U) (U := U.calling g mk a) (Vm.Alike.refl U.vm) q.2⟩, fun U hU hW => ⟨rfl, by show va_X b L xs U U.heap; rw [hU]; exact (hX.kept (hS.2.1 b hbl hbA)).moved hW.alike⟩⟩ rfl rfl hl.1 rfl (lv_room (Nat.le_of_ble_eq_true rfl)) dL_law_24 ⟨Nat.le_of_ble_eq_true rfl, Nat.le_of_ble_eq_true rfl⟩) (fun r24 w24 => ?_)
  refine lv_aload_n hx hb dL_law_27 rfl (lv_at hl 1 rfl) ?_
  refine lv_iconst (v := nI 1) hx hb dL_law_28 (by decide +kernel) ?_
  refine vp_callSi (W.runS (As := [.ref b, .int (nI 1)]) (rest := [.int r24, .ref o, .ref o]) ⟨hx, hb, hml, hown, htsX⟩ (kL_cell l b L 1 xs hL (by omega)) (va_cwS 2 htsX gL_law_L_cell rfl rfl rfl (by decide +kernel) ⟨Nat.le_of_ble_eq_true rfl, Nat.le_of_ble_eq_true rfl⟩) ⟨fun a U g mk q => ⟨q.1, va_X.moved (u := U) (U := U.calling g mk a) (Vm.Alike.refl U.vm) q.2⟩, fun U hU hW => ⟨rfl, by show va_X b L xs U U.heap; rw [hU]; exact (hX.kept (hS.2.1 b hbl hbA)).moved hW.alike⟩⟩ rfl rfl hl.1 rfl (lv_room (Nat.le_of_ble_eq_true rfl)) dL_law_29 ⟨Nat.le_of_ble_eq_true rfl, Nat.le_of_ble_eq_true rfl⟩) (fun r29 w29 => ?_)
  have hPc := hP.sub (ws' := [(o, .inr (1, [.int 0, .int 0, .int 0, .int 0, .int 0, .null, .null, .null]))]) [3] rfl
  have hDc := hD.sub (ws' := [(o, .inr (1, [.int 0, .int 0, .int 0, .int 0, .int 0, .null, .null, .null]))]) [3] (by decide) rfl
  have hKc := hK.sub (tys' := []) [] rfl
  have hFc := va_free (wc := [(o, .inr (1, [.int 0, .int 0, .int 0, .int 0, .int 0, .null, .null, .null]))]) hD hS hA [3] rfl
  refine va_callv (va_runI (As := [.int r24, .int r29]) (rest := [.ref o]) ⟨hx, hb, hml, hown, htsY⟩ (kY1_init l dC dI H.size o r24 r29) (cwI 2 htsY gL_law_Y1_init rfl rfl rfl (htsY (.initialized RY1) (by decide +kernel)) (htsY (.methodLink RL 32 yY1_init) (by decide +kernel)) (htsY (.instanceMethod yY1_init) (by decide +kernel)) rfl (by decide +kernel) ⟨Nat.le_of_ble_eq_true rfl, Nat.le_of_ble_eq_true rfl⟩) ⟨fun a U g mk q => by obtain ⟨q0, q1, qP, qK, qD⟩ := q; exact ⟨q0, q1, qP, va_K.moved (u := U) (U := U.calling g mk a) (Vm.Alike.refl U.vm) qK, qD⟩, fun U hU hW => ⟨rfl, by rw [hU], by rw [hU]; exact hPc, va_K.moved hW.alike hKc, hDc.weaken (fun _ _ _ _ => trivial)⟩⟩ rfl rfl hl.1 rfl (lv_room (Nat.le_of_ble_eq_true rfl)) dL_law_32 ⟨Nat.le_of_ble_eq_true rfl, Nat.le_of_ble_eq_true rfl⟩) hS (fun q _ h => hFc q h) hFc (fun uy t H1 locs ht hvm wy hB hz1 hk1 hS => ?_)
  obtain ⟨b1, b2, b3, cC, cD, cE, hP1, hK1, hD1⟩ := hB
  rw [ht] at hP1
  have hK1 := va_K.moved hvm.symm hK1
  obtain ⟨hP, hD⟩ := va_join (wr := [(h0, .inr (0, [.ref a1, .ref a2, .int (nI ux.1), .int (nI ux.2), .int (nI ux.1), .int (nI ux.2)])), (a1, .inl (cA, 4096, .inl (fun _ => 0))), (a2, .inl (cB, 4096, .inl (fun _ => 0)))]) (w1 := [(o, .inr (1, [.int 0, .int (nI uy.1), .int (nI uy.2), .int (nI uy.1), .int (nI uy.2), .ref b1, .ref b2, .ref b3])), (b1, .inl (cC, 4096, .inl (fun _ => 0))), (b2, .inl (cD, 4096, .inl (fun _ => 0))), (b3, .inl (cE, 4096, .inl (fun _ => 0)))]) hP hD [3] [0, 1, 2] rfl rfl (by decide) (by decide) hk1 hFc hP1 hD1
  have hK : va_K (dC, dI) vwCm [(cA, .int), (cB, .int), (cC, .int), (cD, .int), (cE, .int)] s := hK.app hK1
  generalize H1 = H at hP hS ⊢
  have q1 : uy.1 = ux.1 := (nI_eq (by have := wy.1.2.2; omega) (by have := wx.1.2.2; omega)).mp (wy.1.1.symm.trans ((congrArg cf_near (w24.trans w6.symm)).trans wx.1.1))
  have q2 : uy.2 = ux.2 := (nI_eq (by have := wy.2.2.2; omega) (by have := wx.2.2.2; omega)).mp (wy.2.1.symm.trans ((congrArg cf_near (w29.trans w11.symm)).trans wx.2.1))
  have hP : va_P (dC, dI) vwCm [(h0, .inr (0, [.ref a1, .ref a2, .int (nI ux.1), .int (nI ux.2), .int (nI ux.1), .int (nI ux.2)])), (a1, .inl (cA, 4096, .inl (fun _ => 0))), (a2, .inl (cB, 4096, .inl (fun _ => 0))), (o, .inr (1, [.int 0, .int (nI uy.1), .int (nI uy.2), .int (nI uy.1), .int (nI uy.2), .ref b1, .ref b2, .ref b3])), (b1, .inl (cC, 4096, .inl (fun _ => 0))), (b2, .inl (cD, 4096, .inl (fun _ => 0))), (b3, .inl (cE, 4096, .inl (fun _ => 0)))] H := hP
  have hD : va_D (fun q : Nat => s.heap.size ≤ q) [(h0, .inr (0, [.ref a1, .ref a2, .int (nI ux.1), .int (nI ux.2), .int (nI ux.1), .int (nI ux.2)])), (a1, .inl (cA, 4096, .inl (fun _ => 0))), (a2, .inl (cB, 4096, .inl (fun _ => 0))), (o, .inr (1, [.int 0, .int (nI uy.1), .int (nI uy.2), .int (nI uy.1), .int (nI uy.2), .ref b1, .ref b2, .ref b3])), (b1, .inl (cC, 4096, .inl (fun _ => 0))), (b2, .inl (cD, 4096, .inl (fun _ => 0))), (b3, .inl (cE, 4096, .inl (fun _ => 0)))] := hD
  rw [q1, q2] at hP hD
  refine W.widen (k := 7) (n := 20494) (by omega) (by omega) ?_
  refine lv_astore_n (lv' := [(2, .ref o), (1, .ref h0), (0, .ref b)]) hx hb dL_law_35 rfl hl (by decide) rfl (fun ls hl => ?_)
  refine lv_iconst (v := nI 1) hx hb dL_law_36 (by decide +kernel) ?_
  refine va_newa (D := (dC, dI)) (atype := .long) (a0 := (1, .inr (.inl (fun _ => 0)))) (ty := .long) (N' := 1) hx hb (htsY (.arrayClass .long) (by decide +kernel)) rfl hK hP hD hS hA (fun _ => rfl) (nI_pos (by omega)) (nI_clamp (by omega)) (by decide) (Nat.le_of_ble_eq_true rfl) (Nat.le_of_ble_eq_true rfl) dL_law_37 (fun q3 cJ H hK hP hD hS => ?_)
  have hP : va_P (dC, dI) vwCm [(h0, .inr (0, [.ref a1, .ref a2, .int (nI ux.1), .int (nI ux.2), .int (nI ux.1), .int (nI ux.2)])), (a1, .inl (cA, 4096, .inl (fun _ => 0))), (a2, .inl (cB, 4096, .inl (fun _ => 0))), (o, .inr (1, [.int 0, .int (nI ux.1), .int (nI ux.2), .int (nI ux.1), .int (nI ux.2), .ref b1, .ref b2, .ref b3])), (b1, .inl (cC, 4096, .inl (fun _ => 0))), (b2, .inl (cD, 4096, .inl (fun _ => 0))), (b3, .inl (cE, 4096, .inl (fun _ => 0))), (q3, .inl (cJ, 1, .inr (.inl (fun _ => 0))))] H := hP
  have hD : va_D (fun q : Nat => s.heap.size ≤ q) [(h0, .inr (0, [.ref a1, .ref a2, .int (nI ux.1), .int (nI ux.2), .int (nI ux.1), .int (nI ux.2)])), (a1, .inl (cA, 4096, .inl (fun _ => 0))), (a2, .inl (cB, 4096, .inl (fun _ => 0))), (o, .inr (1, [.int 0, .int (nI ux.1), .int (nI ux.2), .int (nI ux.1), .int (nI ux.2), .ref b1, .ref b2, .ref b3])), (b1, .inl (cC, 4096, .inl (fun _ => 0))), (b2, .inl (cD, 4096, .inl (fun _ => 0))), (b3, .inl (cE, 4096, .inl (fun _ => 0))), (q3, .inl (cJ, 1, .inr (.inl (fun _ => 0))))] := hD
  have hK : va_K (dC, dI) vwCm [(cA, .int), (cB, .int), (cC, .int), (cD, .int), (cE, .int), (cJ, .long)] s := hK
  refine lv_astore_n (lv' := [(3, .ref q3), (2, .ref o), (1, .ref h0), (0, .ref b)]) hx hb dL_law_39 rfl hl (by decide) rfl (fun ls hl => ?_)
  refine lv_iconst (v := nI 2) hx hb dL_law_40 (by decide +kernel) ?_
  refine lv_istore (lv' := [(4, .int (nI 2)), (3, .ref q3), (2, .ref o), (1, .ref h0), (0, .ref b)]) hx hb dL_law_41 hl (by decide) rfl (fun ls hl => ?_)
  refine W.widen (k := 8) (n := 20495) (by omega) (by omega) ?_
  exact law_loop htr C0 hL hK hXf hNc hZf 513 0 (by omega) (by omega) (fun _ => 0) (fun _ => 0) (fun _ => 0) (fun _ => 0) (fun _ => 0) 0 (fun _ => 0) ux.1 ux.2 ux.1 ux.2 H _ ls ⟨⟨wx.1.2.1, wx.1.2.2, wx.2.2.1, wx.2.2.2, wx.1.2.1, wx.1.2.2, wx.2.2.1, wx.2.2.2⟩, cf_Ag.rf, cf_Ag.rf⟩ hP hD hS (lv_sub hl [4, 3, 2, 1, 0] rfl)
