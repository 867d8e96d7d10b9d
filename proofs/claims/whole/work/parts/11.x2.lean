set_option maxHeartbeats 4000000 in
set_option maxRecDepth 100000 in
/-- X0_transposeBlock -/
theorem kX0_transposeBlock (l : Launch) (dC : Nat → ClassId) (dI : Nat → Nat → Nat) (sz : Nat) (h0 a1 a2 : Nat) (cA cB : ClassId) (f g : Nat → Int32) (w h kw kh : Nat) (i : Nat) (hi : i < 64) : Met l yX0_transposeBlock wsX0_transposeBlock ({ frames := 1, cells := 0, slots := 0, locals := 23 }) (va_Pc [.ref h0, .int (nI (64 * i))] (fun U => U.heap.size = sz ∧ va_P (dC, dI) vwCm [(h0, .inr (0, [.ref a1, .ref a2, .int (nI w), .int (nI h), .int (nI kw), .int (nI kh)])), (a1, .inl (cA, 4096, .inl f)), (a2, .inl (cB, 4096, .inl g))] U.heap ∧ va_K (dC, dI) vwCm [(cA, .int), (cB, .int)] U ∧ va_D (fun _ => True) [(h0, .inr (0, [.ref a1, .ref a2, .int (nI w), .int (nI h), .int (nI kw), .int (nI kh)])), (a1, .inl (cA, 4096, .inl f)), (a2, .inl (cB, 4096, .inl g))])) (va_Qv (fun u : Nat → Int32 => cf_tB i f u) (fun (u : Nat → Int32) (t : State) => va_P (dC, dI) vwCm [(h0, .inr (0, [.ref a1, .ref a2, .int (nI w), .int (nI h), .int (nI kw), .int (nI kh)])), (a1, .inl (cA, 4096, .inl u)), (a2, .inl (cB, 4096, .inl g))] t.heap ∧ va_K (dC, dI) vwCm [(cA, .int), (cB, .int)] t ∧ va_D (va_A [(h0, .inr (0, [.ref a1, .ref a2, .int (nI w), .int (nI h), .int (nI kw), .int (nI kh)])), (a1, .inl (cA, 4096, .inl f)), (a2, .inl (cB, 4096, .inl g))] sz) [(h0, .inr (0, [.ref a1, .ref a2, .int (nI w), .int (nI h), .int (nI kw), .int (nI kh)])), (a1, .inl (cA, 4096, .inl u)), (a2, .inl (cB, 4096, .inl g))]) (va_A [(h0, .inr (0, [.ref a1, .ref a2, .int (nI w), .int (nI h), .int (nI kw), .int (nI kh)])), (a1, .inl (cA, 4096, .inl f)), (a2, .inl (cB, 4096, .inl g))] sz)) 0 0 (va_A [(h0, .inr (0, [.ref a1, .ref a2, .int (nI w), .int (nI h), .int (nI kw), .int (nI kh)])), (a1, .inl (cA, 4096, .inl f)), (a2, .inl (cB, 4096, .inl g))] sz) := by
  refine Met.ofW (cc := cX0_transposeBlock) (maxL := 4) (ret := none) (by decide) rfl ?_
  intro p e s m args below meth c s₁ B hml hv
  obtain ⟨rfl, hsz, hP, hK, hD0⟩ := hv
  have hx := B.exec
  have hb := B.bytes
  have hr := B.returns
  have hts := atoms_spec (ws := wsX0_transposeBlock) B.pre
  have hown : s.vm.findClass RX0 = some m.cls := findClass_of_methodNamed B.named
  have hlocks := B.notSynchronized
  subst hsz
  have hD := hD0.self (sz := s.heap.size)
  generalize hAe : va_A [(h0, .inr (0, [.ref a1, .ref a2, .int (nI w), .int (nI h), .int (nI kw), .int (nI kh)])), (a1, .inl (cA, 4096, .inl f)), (a2, .inl (cB, 4096, .inl g))] s.heap.size = A at hD ⊢
  have hA : ∀ q : Nat, s.heap.size ≤ q → A q := fun q h => by rw [← hAe]; exact Or.inr h
  have hS : va_S A s.heap s.heap [] := va_S.rf
  have hP : va_P (dC, dI) vwCm [(h0, .inr (0, [.ref a1, .ref a2, .int (nI w), .int (nI h), .int (nI kw), .int (nI kh)])), (a1, .inl (cA, 4096, .inl f)), (a2, .inl (cB, 4096, .inl g))] s.heap := hP
  have hl := lv_entry ([.ref h0, .int (nI (64 * i))]) (n := 4) (Nat.le_of_ble_eq_true rfl)
  rw [lg_entry_eq]
  generalize (lg_sl ([.ref h0, .int (nI (64 * i))]) ++ List.replicate (4 - (lg_sl ([.ref h0, .int (nI (64 * i))])).length) Slot.unset).toArray = ls at hl ⊢
  have hl : lv_has ls 4 [(0, .ref h0), (1, .int (nI (64 * i)))] := hl
  refine lv_iconst (v := nI 1) hx hb dX0_transposeBlock_0 (by decide +kernel) ?_
  refine lv_istore_n (lv' := [(2, .int (nI 1)), (0, .ref h0), (1, .int (nI (64 * i)))]) hx hb dX0_transposeBlock_1 rfl hl (by decide) rfl (fun ls hl => ?_)
  have lp2 : ∀ (n2 : Nat) (v0 : Nat) (fc : Nat → Int32), v0 ≤ 8 → 8 < v0 + n2 → cf_tb i v0 0 f fc → ∀ (H : Heap) (locs : List Loc), va_P (dC, dI) vwCm [(h0, .inr (0, [.ref a1, .ref a2, .int (nI w), .int (nI h), .int (nI kw), .int (nI kh)])), (a1, .inl (cA, 4096, .inl fc)), (a2, .inl (cB, 4096, .inl g))] H → va_D A [(h0, .inr (0, [.ref a1, .ref a2, .int (nI w), .int (nI h), .int (nI kw), .int (nI kh)])), (a1, .inl (cA, 4096, .inl fc)), (a2, .inl (cB, 4096, .inl g))] → va_S A s.heap H locs → ∀ (ls : Array Slot), lv_has ls 4 [(0, .ref h0), (1, .int (nI (64 * i))), (2, .int (nI v0))] → W p l e (headSpec wsX0_transposeBlock ({ frames := 1, cells := 0, slots := 0, locals := 23 })).room s m ([.ref h0, .int (nI (64 * i))] : List Value).toArray below meth c H locs 0 0 (MQ below (va_Qv (fun u : Nat → Int32 => cf_tB i f u) (fun (u : Nat → Int32) (t : State) => va_P (dC, dI) vwCm [(h0, .inr (0, [.ref a1, .ref a2, .int (nI w), .int (nI h), .int (nI kw), .int (nI kh)])), (a1, .inl (cA, 4096, .inl u)), (a2, .inl (cB, 4096, .inl g))] t.heap ∧ va_K (dC, dI) vwCm [(cA, .int), (cB, .int)] t ∧ va_D A [(h0, .inr (0, [.ref a1, .ref a2, .int (nI w), .int (nI h), .int (nI kw), .int (nI kh)])), (a1, .inl (cA, 4096, .inl u)), (a2, .inl (cB, 4096, .inl g))]) A) ([.ref h0, .int (nI (64 * i))] : List Value).toArray s 0 0 A) (F0 m 2 ls []) := by
    intro n2
    induction n2 with
    | zero => intro v0 fc h1 h2; exact absurd h2 (by omega)
    | succ n2 ih2 =>
      intro v0 fc hk2 hn2 hI H locs hP hD hS ls hl
      refine lv_iload_n hx hb dX0_transposeBlock_2 rfl (lv_at hl 2 rfl) ?_
      refine lv_bipush (v := nI 8) hx hb dX0_transposeBlock_3 (by decide +kernel) ?_
      refine lv_icmp_ge (tgt := 47) hx hb dX0_transposeBlock_5 (by decide) (fun c5 => ?_) (fun c5 => ?_)
      · skip
        have c5 := (nI_leI (a := 8) (b := v0) (by omega) (by omega)).mp c5
        have hP9 := hP.sub (ws' := [(h0, .inr (0, [.ref a1, .ref a2, .int (nI w), .int (nI h), .int (nI kw), .int (nI kh)])), (a1, .inl (cA, 4096, .inl fc)), (a2, .inl (cB, 4096, .inl g))]) [0, 1, 2] rfl
        have hD9 := hD.sub (ws' := [(h0, .inr (0, [.ref a1, .ref a2, .int (nI w), .int (nI h), .int (nI kw), .int (nI kh)])), (a1, .inl (cA, 4096, .inl fc)), (a2, .inl (cB, 4096, .inl g))]) [0, 1, 2] (by decide) rfl
        exact W.vret hx hb hr (fun t ht hW => ⟨⟨fc, rfl, (by have e : v0 = 8 := (by omega); rw [e] at hI; exact cf_tb_e hI), by rw [ht]; exact hP9, va_K.moved hW.alike hK, hD9⟩, hS.F ht⟩) hS.2.2 dX0_transposeBlock_47
      · skip
        have c5 := mt (nI_leI (a := 8) (b := v0) (by omega) (by omega)).mpr c5
        refine lv_iconst (v := nI 0) hx hb dX0_transposeBlock_8 (by decide +kernel) ?_
        refine lv_istore_n (lv' := [(3, .int (nI 0)), (0, .ref h0), (1, .int (nI (64 * i))), (2, .int (nI v0))]) hx hb dX0_transposeBlock_9 rfl hl (by decide) rfl (fun ls hl => ?_)
        have lp10 : ∀ (n10 : Nat) (u0 : Nat) (fd : Nat → Int32), u0 ≤ v0 → v0 < u0 + n10 → cf_tb i v0 u0 f fd → ∀ (H : Heap) (locs : List Loc), va_P (dC, dI) vwCm [(h0, .inr (0, [.ref a1, .ref a2, .int (nI w), .int (nI h), .int (nI kw), .int (nI kh)])), (a1, .inl (cA, 4096, .inl fd)), (a2, .inl (cB, 4096, .inl g))] H → va_D A [(h0, .inr (0, [.ref a1, .ref a2, .int (nI w), .int (nI h), .int (nI kw), .int (nI kh)])), (a1, .inl (cA, 4096, .inl fd)), (a2, .inl (cB, 4096, .inl g))] → va_S A s.heap H locs → ∀ (ls : Array Slot), lv_has ls 4 [(0, .ref h0), (1, .int (nI (64 * i))), (2, .int (nI v0)), (3, .int (nI u0))] → W p l e (headSpec wsX0_transposeBlock ({ frames := 1, cells := 0, slots := 0, locals := 23 })).room s m ([.ref h0, .int (nI (64 * i))] : List Value).toArray below meth c H locs 0 0 (MQ below (va_Qv (fun u : Nat → Int32 => cf_tB i f u) (fun (u : Nat → Int32) (t : State) => va_P (dC, dI) vwCm [(h0, .inr (0, [.ref a1, .ref a2, .int (nI w), .int (nI h), .int (nI kw), .int (nI kh)])), (a1, .inl (cA, 4096, .inl u)), (a2, .inl (cB, 4096, .inl g))] t.heap ∧ va_K (dC, dI) vwCm [(cA, .int), (cB, .int)] t ∧ va_D A [(h0, .inr (0, [.ref a1, .ref a2, .int (nI w), .int (nI h), .int (nI kw), .int (nI kh)])), (a1, .inl (cA, 4096, .inl u)), (a2, .inl (cB, 4096, .inl g))]) A) ([.ref h0, .int (nI (64 * i))] : List Value).toArray s 0 0 A) (F0 m 10 ls []) := by
          intro n10
          induction n10 with
          | zero => intro u0 fd h1 h2; exact absurd h2 (by omega)
          | succ n10 ih10 =>
            intro u0 fd hk10 hn10 hI1 H locs hP hD hS ls hl
            refine lv_iload_n hx hb dX0_transposeBlock_10 rfl (lv_at hl 3 rfl) ?_
            refine lv_iload_n hx hb dX0_transposeBlock_11 rfl (lv_at hl 2 rfl) ?_
            refine lv_icmp_ge (tgt := 41) hx hb dX0_transposeBlock_12 (by decide) (fun c12 => ?_) (fun c12 => ?_)
            · skip
              have c12 := (nI_leI (a := v0) (b := u0) (by omega) (by omega)).mp c12
              refine lv_iinc (v := nI (v0 + 1)) (lv' := [(2, .int (nI (v0 + 1))), (0, .ref h0), (1, .int (nI (64 * i))), (3, .int (nI u0))]) hx hb dX0_transposeBlock_41 hl (k := 2) rfl (by rw [← nI_add]; rfl) (by decide) rfl (fun ls hl => ?_)
              refine lv_goto (tgt := 2) hx hb dX0_transposeBlock_44 (by decide) ?_
              exact ih2 (v0 + 1) fd (by omega) (by omega) (cf_tb_r hI1 (by omega)) H locs hP hD hS ls (lv_sub hl [1, 2, 0] rfl)
            · skip
              have c12 := mt (nI_leI (a := v0) (b := u0) (by omega) (by omega)).mpr c12
              refine lv_aload_n hx hb dX0_transposeBlock_15 rfl (lv_at hl 0 rfl) ?_
              refine lv_iload_n hx hb dX0_transposeBlock_16 rfl (lv_at hl 1 rfl) ?_
              refine lv_bipush (v := nI 8) hx hb dX0_transposeBlock_17 (by decide +kernel) ?_
              refine lv_iload_n hx hb dX0_transposeBlock_19 rfl (lv_at hl 2 rfl) ?_
              refine lv_imul hx hb dX0_transposeBlock_20 ?_
              refine cf_top (pk_mul _ _) ?_
              refine lv_iadd hx hb dX0_transposeBlock_21 ?_
              refine cf_top (nI_add _ _) ?_
              refine lv_iload_n hx hb dX0_transposeBlock_22 rfl (lv_at hl 3 rfl) ?_
              refine lv_iadd hx hb dX0_transposeBlock_23 ?_
              refine cf_top (nI_add _ _) ?_
              refine lv_iload_n hx hb dX0_transposeBlock_24 rfl (lv_at hl 1 rfl) ?_
              refine lv_bipush (v := nI 8) hx hb dX0_transposeBlock_25 (by decide +kernel) ?_
              refine lv_iload_n hx hb dX0_transposeBlock_27 rfl (lv_at hl 3 rfl) ?_
              refine lv_imul hx hb dX0_transposeBlock_28 ?_
              refine cf_top (pk_mul _ _) ?_
              refine lv_iadd hx hb dX0_transposeBlock_29 ?_
              refine cf_top (nI_add _ _) ?_
              refine lv_iload_n hx hb dX0_transposeBlock_30 rfl (lv_at hl 2 rfl) ?_
              refine lv_iadd hx hb dX0_transposeBlock_31 ?_
              refine cf_top (nI_add _ _) ?_
              have hPc := hP.sub (ws' := [(h0, .inr (0, [.ref a1, .ref a2, .int (nI w), .int (nI h), .int (nI kw), .int (nI kh)])), (a1, .inl (cA, 4096, .inl fd)), (a2, .inl (cB, 4096, .inl g))]) [0, 1, 2] rfl
              have hKc := hK.sub (tys' := [(cA, .int), (cB, .int)]) [0, 1] rfl
              have hDc := hD.sub (ws' := [(h0, .inr (0, [.ref a1, .ref a2, .int (nI w), .int (nI h), .int (nI kw), .int (nI kh)])), (a1, .inl (cA, 4096, .inl fd)), (a2, .inl (cB, 4096, .inl g))]) [0, 1, 2] (by decide) rfl
              have hFc := va_free (wc := [(h0, .inr (0, [.ref a1, .ref a2, .int (nI w), .int (nI h), .int (nI kw), .int (nI kh)])), (a1, .inl (cA, 4096, .inl fd)), (a2, .inl (cB, 4096, .inl g))]) hD hS hA [0, 1, 2] rfl
              refine va_callv (va_runV (As := [.int (nI (64 * i + 8 * v0 + u0)), .int (nI (64 * i + 8 * u0 + v0))]) (rest := []) ⟨hx, hb, hml, hown, hts⟩ (kX0_exchangeCells l dC dI H.size h0 a1 a2 cA cB fd g w h kw kh (64 * i + 8 * v0 + u0) (64 * i + 8 * u0 + v0) (by omega) (by omega)) (cwV 2 hts gX0_transposeBlock_X0_exchangeCells rfl rfl rfl (by decide +kernel) ⟨Nat.le_of_ble_eq_true rfl, Nat.le_of_ble_eq_true rfl⟩) ⟨fun a U g mk q => by obtain ⟨q0, q1, qP, qK, qD⟩ := q; exact ⟨q0, q1, qP, va_K.moved (u := U) (U := U.calling g mk a) (Vm.Alike.refl U.vm) qK, qD⟩, va_recv hKc hPc (ci := 0) (q0 := 0) rfl rfl, fun U hU hW => ⟨rfl, by rw [hU], by rw [hU]; exact hPc, va_K.moved hW.alike hKc, hDc.weaken (fun _ _ _ _ => trivial)⟩⟩ rfl rfl hl.1 rfl (lv_room (Nat.le_of_ble_eq_true rfl)) dX0_transposeBlock_32 ⟨Nat.le_of_ble_eq_true rfl, Nat.le_of_ble_eq_true rfl⟩) hS (fun q _ h => hFc q h) hFc (fun u32 t H1 locs ht hvm w32 hB hz1 hk1 hS => ?_)
              obtain ⟨hP1, -, hD1⟩ := hB
              rw [ht] at hP1
              try dsimp only at w32
              obtain ⟨hP, hD⟩ := va_join (wr := []) (w1 := [(h0, .inr (0, [.ref a1, .ref a2, .int (nI w), .int (nI h), .int (nI kw), .int (nI kh)])), (a1, .inl (cA, 4096, .inl u32)), (a2, .inl (cB, 4096, .inl g))]) hP hD [0, 1, 2] [] rfl rfl (by decide) (by decide) hk1 hFc hP1 hD1
              generalize H1 = H at hP hS ⊢
              have hP : va_P (dC, dI) vwCm [(h0, .inr (0, [.ref a1, .ref a2, .int (nI w), .int (nI h), .int (nI kw), .int (nI kh)])), (a1, .inl (cA, 4096, .inl u32)), (a2, .inl (cB, 4096, .inl g))] H := hP
              have hD : va_D A [(h0, .inr (0, [.ref a1, .ref a2, .int (nI w), .int (nI h), .int (nI kw), .int (nI kh)])), (a1, .inl (cA, 4096, .inl u32)), (a2, .inl (cB, 4096, .inl g))] := hD
              refine lv_iinc (v := nI (u0 + 1)) (lv' := [(3, .int (nI (u0 + 1))), (0, .ref h0), (1, .int (nI (64 * i))), (2, .int (nI v0))]) hx hb dX0_transposeBlock_35 hl (k := 3) rfl (by rw [← nI_add]; rfl) (by decide) rfl (fun ls hl => ?_)
              refine lv_goto (tgt := 10) hx hb dX0_transposeBlock_38 (by decide) ?_
              exact ih10 (u0 + 1) u32 (by omega) (by omega) (by rw [w32, Nat.add_assoc, Nat.add_assoc]; exact cf_tb_s hI1 (by omega) (by omega)) H locs hP hD hS ls (lv_sub hl [1, 2, 3, 0] rfl)
        exact lp10 (v0 + 1) 0 fc (by omega) (by omega) hI H locs hP hD hS ls (lv_sub hl [1, 2, 3, 0] rfl)
  exact lp2 (8 + 1) 1 f (by omega) (by omega) cf_tb_0 s.heap [] hP hD hS ls (lv_sub hl [1, 2, 0] rfl)
set_option maxHeartbeats 4000000 in
set_option maxRecDepth 100000 in
/-- X0_exchangeAcrossDiagonal -/
theorem kX0_exchangeAcrossDiagonal (l : Launch) (dC : Nat → ClassId) (dI : Nat → Nat → Nat) (sz : Nat) (h0 a1 a2 : Nat) (cA cB : ClassId) (f g : Nat → Int32) (w h kw kh : Nat) (n : Nat) (hn : n ≤ 8) (hn1 : 1 ≤ n) : Met l yX0_exchangeAcrossDiagonal wsX0_exchangeAcrossDiagonal ({ frames := 2, cells := 0, slots := 0, locals := 46 }) (va_Pc [.ref h0, .int (nI n)] (fun U => U.heap.size = sz ∧ va_P (dC, dI) vwCm [(h0, .inr (0, [.ref a1, .ref a2, .int (nI w), .int (nI h), .int (nI kw), .int (nI kh)])), (a1, .inl (cA, 4096, .inl f)), (a2, .inl (cB, 4096, .inl g))] U.heap ∧ va_K (dC, dI) vwCm [(cA, .int), (cB, .int)] U ∧ va_D (fun _ => True) [(h0, .inr (0, [.ref a1, .ref a2, .int (nI w), .int (nI h), .int (nI kw), .int (nI kh)])), (a1, .inl (cA, 4096, .inl f)), (a2, .inl (cB, 4096, .inl g))])) (va_Qv (fun u : Nat → Int32 => cf_xD n f u) (fun (u : Nat → Int32) (t : State) => va_P (dC, dI) vwCm [(h0, .inr (0, [.ref a1, .ref a2, .int (nI w), .int (nI h), .int (nI kw), .int (nI kh)])), (a1, .inl (cA, 4096, .inl u)), (a2, .inl (cB, 4096, .inl g))] t.heap ∧ va_K (dC, dI) vwCm [(cA, .int), (cB, .int)] t ∧ va_D (va_A [(h0, .inr (0, [.ref a1, .ref a2, .int (nI w), .int (nI h), .int (nI kw), .int (nI kh)])), (a1, .inl (cA, 4096, .inl f)), (a2, .inl (cB, 4096, .inl g))] sz) [(h0, .inr (0, [.ref a1, .ref a2, .int (nI w), .int (nI h), .int (nI kw), .int (nI kh)])), (a1, .inl (cA, 4096, .inl u)), (a2, .inl (cB, 4096, .inl g))]) (va_A [(h0, .inr (0, [.ref a1, .ref a2, .int (nI w), .int (nI h), .int (nI kw), .int (nI kh)])), (a1, .inl (cA, 4096, .inl f)), (a2, .inl (cB, 4096, .inl g))] sz)) 0 0 (va_A [(h0, .inr (0, [.ref a1, .ref a2, .int (nI w), .int (nI h), .int (nI kw), .int (nI kh)])), (a1, .inl (cA, 4096, .inl f)), (a2, .inl (cB, 4096, .inl g))] sz) := by
  refine Met.ofW (cc := cX0_exchangeAcrossDiagonal) (maxL := 4) (ret := none) (by decide) rfl ?_
  intro p e s m args below meth c s₁ B hml hv
  obtain ⟨rfl, hsz, hP, hK, hD0⟩ := hv
  have hx := B.exec
  have hb := B.bytes
  have hr := B.returns
  have hts := atoms_spec (ws := wsX0_exchangeAcrossDiagonal) B.pre
  have hown : s.vm.findClass RX0 = some m.cls := findClass_of_methodNamed B.named
  have hlocks := B.notSynchronized
  subst hsz
  have hD := hD0.self (sz := s.heap.size)
  generalize hAe : va_A [(h0, .inr (0, [.ref a1, .ref a2, .int (nI w), .int (nI h), .int (nI kw), .int (nI kh)])), (a1, .inl (cA, 4096, .inl f)), (a2, .inl (cB, 4096, .inl g))] s.heap.size = A at hD ⊢
  have hA : ∀ q : Nat, s.heap.size ≤ q → A q := fun q h => by rw [← hAe]; exact Or.inr h
  have hS : va_S A s.heap s.heap [] := va_S.rf
  have hP : va_P (dC, dI) vwCm [(h0, .inr (0, [.ref a1, .ref a2, .int (nI w), .int (nI h), .int (nI kw), .int (nI kh)])), (a1, .inl (cA, 4096, .inl f)), (a2, .inl (cB, 4096, .inl g))] s.heap := hP
  have hl := lv_entry ([.ref h0, .int (nI n)]) (n := 4) (Nat.le_of_ble_eq_true rfl)
  rw [lg_entry_eq]
  generalize (lg_sl ([.ref h0, .int (nI n)]) ++ List.replicate (4 - (lg_sl ([.ref h0, .int (nI n)])).length) Slot.unset).toArray = ls at hl ⊢
  have hl : lv_has ls 4 [(0, .ref h0), (1, .int (nI n))] := hl
  refine lv_iconst (v := nI 1) hx hb dX0_exchangeAcrossDiagonal_0 (by decide +kernel) ?_
  refine lv_istore_n (lv' := [(2, .int (nI 1)), (0, .ref h0), (1, .int (nI n))]) hx hb dX0_exchangeAcrossDiagonal_1 rfl hl (by decide) rfl (fun ls hl => ?_)
  have lp2 : ∀ (n2 : Nat) (v0 : Nat) (fc : Nat → Int32), v0 ≤ n → n < v0 + n2 → cf_xd v0 0 f fc → ∀ (H : Heap) (locs : List Loc), va_P (dC, dI) vwCm [(h0, .inr (0, [.ref a1, .ref a2, .int (nI w), .int (nI h), .int (nI kw), .int (nI kh)])), (a1, .inl (cA, 4096, .inl fc)), (a2, .inl (cB, 4096, .inl g))] H → va_D A [(h0, .inr (0, [.ref a1, .ref a2, .int (nI w), .int (nI h), .int (nI kw), .int (nI kh)])), (a1, .inl (cA, 4096, .inl fc)), (a2, .inl (cB, 4096, .inl g))] → va_S A s.heap H locs → ∀ (ls : Array Slot), lv_has ls 4 [(0, .ref h0), (1, .int (nI n)), (2, .int (nI v0))] → W p l e (headSpec wsX0_exchangeAcrossDiagonal ({ frames := 2, cells := 0, slots := 0, locals := 46 })).room s m ([.ref h0, .int (nI n)] : List Value).toArray below meth c H locs 0 0 (MQ below (va_Qv (fun u : Nat → Int32 => cf_xD n f u) (fun (u : Nat → Int32) (t : State) => va_P (dC, dI) vwCm [(h0, .inr (0, [.ref a1, .ref a2, .int (nI w), .int (nI h), .int (nI kw), .int (nI kh)])), (a1, .inl (cA, 4096, .inl u)), (a2, .inl (cB, 4096, .inl g))] t.heap ∧ va_K (dC, dI) vwCm [(cA, .int), (cB, .int)] t ∧ va_D A [(h0, .inr (0, [.ref a1, .ref a2, .int (nI w), .int (nI h), .int (nI kw), .int (nI kh)])), (a1, .inl (cA, 4096, .inl u)), (a2, .inl (cB, 4096, .inl g))]) A) ([.ref h0, .int (nI n)] : List Value).toArray s 0 0 A) (F0 m 2 ls []) := by
    intro n2
    induction n2 with
    | zero => intro v0 fc h1 h2; exact absurd h2 (by omega)
    | succ n2 ih2 =>
      intro v0 fc hk2 hn2 hI H locs hP hD hS ls hl
      refine lv_iload_n hx hb dX0_exchangeAcrossDiagonal_2 rfl (lv_at hl 2 rfl) ?_
      refine lv_iload_n hx hb dX0_exchangeAcrossDiagonal_3 rfl (lv_at hl 1 rfl) ?_
      refine lv_icmp_ge (tgt := 40) hx hb dX0_exchangeAcrossDiagonal_4 (by decide) (fun c4 => ?_) (fun c4 => ?_)
      · skip
        have c4 := (nI_leI (a := n) (b := v0) (by omega) (by omega)).mp c4
        have hP9 := hP.sub (ws' := [(h0, .inr (0, [.ref a1, .ref a2, .int (nI w), .int (nI h), .int (nI kw), .int (nI kh)])), (a1, .inl (cA, 4096, .inl fc)), (a2, .inl (cB, 4096, .inl g))]) [0, 1, 2] rfl
        have hD9 := hD.sub (ws' := [(h0, .inr (0, [.ref a1, .ref a2, .int (nI w), .int (nI h), .int (nI kw), .int (nI kh)])), (a1, .inl (cA, 4096, .inl fc)), (a2, .inl (cB, 4096, .inl g))]) [0, 1, 2] (by decide) rfl
        exact W.vret hx hb hr (fun t ht hW => ⟨⟨fc, rfl, (by have e : v0 = n := (by omega); rw [e] at hI; exact cf_xd_e hI hn), by rw [ht]; exact hP9, va_K.moved hW.alike hK, hD9⟩, hS.F ht⟩) hS.2.2 dX0_exchangeAcrossDiagonal_40
      · skip
        have c4 := mt (nI_leI (a := n) (b := v0) (by omega) (by omega)).mpr c4
        refine lv_iconst (v := nI 0) hx hb dX0_exchangeAcrossDiagonal_7 (by decide +kernel) ?_
        refine lv_istore_n (lv' := [(3, .int (nI 0)), (0, .ref h0), (1, .int (nI n)), (2, .int (nI v0))]) hx hb dX0_exchangeAcrossDiagonal_8 rfl hl (by decide) rfl (fun ls hl => ?_)
        have lp9 : ∀ (n9 : Nat) (u0 : Nat) (fd : Nat → Int32), u0 ≤ v0 → v0 < u0 + n9 → cf_xd v0 u0 f fd → ∀ (H : Heap) (locs : List Loc), va_P (dC, dI) vwCm [(h0, .inr (0, [.ref a1, .ref a2, .int (nI w), .int (nI h), .int (nI kw), .int (nI kh)])), (a1, .inl (cA, 4096, .inl fd)), (a2, .inl (cB, 4096, .inl g))] H → va_D A [(h0, .inr (0, [.ref a1, .ref a2, .int (nI w), .int (nI h), .int (nI kw), .int (nI kh)])), (a1, .inl (cA, 4096, .inl fd)), (a2, .inl (cB, 4096, .inl g))] → va_S A s.heap H locs → ∀ (ls : Array Slot), lv_has ls 4 [(0, .ref h0), (1, .int (nI n)), (2, .int (nI v0)), (3, .int (nI u0))] → W p l e (headSpec wsX0_exchangeAcrossDiagonal ({ frames := 2, cells := 0, slots := 0, locals := 46 })).room s m ([.ref h0, .int (nI n)] : List Value).toArray below meth c H locs 0 0 (MQ below (va_Qv (fun u : Nat → Int32 => cf_xD n f u) (fun (u : Nat → Int32) (t : State) => va_P (dC, dI) vwCm [(h0, .inr (0, [.ref a1, .ref a2, .int (nI w), .int (nI h), .int (nI kw), .int (nI kh)])), (a1, .inl (cA, 4096, .inl u)), (a2, .inl (cB, 4096, .inl g))] t.heap ∧ va_K (dC, dI) vwCm [(cA, .int), (cB, .int)] t ∧ va_D A [(h0, .inr (0, [.ref a1, .ref a2, .int (nI w), .int (nI h), .int (nI kw), .int (nI kh)])), (a1, .inl (cA, 4096, .inl u)), (a2, .inl (cB, 4096, .inl g))]) A) ([.ref h0, .int (nI n)] : List Value).toArray s 0 0 A) (F0 m 9 ls []) := by
          intro n9
          induction n9 with
          | zero => intro u0 fd h1 h2; exact absurd h2 (by omega)
          | succ n9 ih9 =>
            intro u0 fd hk9 hn9 hI1 H locs hP hD hS ls hl
            refine lv_iload_n hx hb dX0_exchangeAcrossDiagonal_9 rfl (lv_at hl 3 rfl) ?_
            refine lv_iload_n hx hb dX0_exchangeAcrossDiagonal_10 rfl (lv_at hl 2 rfl) ?_
            refine lv_icmp_ge (tgt := 34) hx hb dX0_exchangeAcrossDiagonal_11 (by decide) (fun c11 => ?_) (fun c11 => ?_)
            · skip
              have c11 := (nI_leI (a := v0) (b := u0) (by omega) (by omega)).mp c11
              refine lv_iinc (v := nI (v0 + 1)) (lv' := [(2, .int (nI (v0 + 1))), (0, .ref h0), (1, .int (nI n)), (3, .int (nI u0))]) hx hb dX0_exchangeAcrossDiagonal_34 hl (k := 2) rfl (by rw [← nI_add]; rfl) (by decide) rfl (fun ls hl => ?_)
              refine lv_goto (tgt := 2) hx hb dX0_exchangeAcrossDiagonal_37 (by decide) ?_
              exact ih2 (v0 + 1) fd (by omega) (by omega) (cf_xd_r hI1 (by omega)) H locs hP hD hS ls (lv_sub hl [1, 2, 0] rfl)
            · skip
              have c11 := mt (nI_leI (a := v0) (b := u0) (by omega) (by omega)).mpr c11
              refine lv_aload_n hx hb dX0_exchangeAcrossDiagonal_14 rfl (lv_at hl 0 rfl) ?_
              refine lv_iload_n hx hb dX0_exchangeAcrossDiagonal_15 rfl (lv_at hl 3 rfl) ?_
              refine lv_iload_n hx hb dX0_exchangeAcrossDiagonal_16 rfl (lv_at hl 2 rfl) ?_
              refine vp_callSi (W.runS (As := [.int (nI u0), .int (nI v0)]) (rest := [.ref h0]) ⟨hx, hb, hml, hown, hts⟩ (kX0_blockStart l u0 v0) (va_cwS 2 hts gX0_exchangeAcrossDiagonal_X0_blockStart rfl rfl rfl (by decide +kernel) ⟨Nat.le_of_ble_eq_true rfl, Nat.le_of_ble_eq_true rfl⟩) ⟨fun a U g mk q => q, fun U hU hW => ⟨rfl, trivial⟩⟩ rfl rfl hl.1 rfl (lv_room (Nat.le_of_ble_eq_true rfl)) dX0_exchangeAcrossDiagonal_17 ⟨Nat.le_of_ble_eq_true rfl, Nat.le_of_ble_eq_true rfl⟩) (fun r17 w17 => ?_)
              subst w17
              refine lv_iload_n hx hb dX0_exchangeAcrossDiagonal_20 rfl (lv_at hl 2 rfl) ?_
              refine lv_iload_n hx hb dX0_exchangeAcrossDiagonal_21 rfl (lv_at hl 3 rfl) ?_
              refine vp_callSi (W.runS (As := [.int (nI v0), .int (nI u0)]) (rest := [.int (nI (64 * (8 * v0 + u0))), .ref h0]) ⟨hx, hb, hml, hown, hts⟩ (kX0_blockStart l v0 u0) (va_cwS 2 hts gX0_exchangeAcrossDiagonal_X0_blockStart rfl rfl rfl (by decide +kernel) ⟨Nat.le_of_ble_eq_true rfl, Nat.le_of_ble_eq_true rfl⟩) ⟨fun a U g mk q => q, fun U hU hW => ⟨rfl, trivial⟩⟩ rfl rfl hl.1 rfl (lv_room (Nat.le_of_ble_eq_true rfl)) dX0_exchangeAcrossDiagonal_22 ⟨Nat.le_of_ble_eq_true rfl, Nat.le_of_ble_eq_true rfl⟩) (fun r22 w22 => ?_)
              subst w22
              have hPc := hP.sub (ws' := [(h0, .inr (0, [.ref a1, .ref a2, .int (nI w), .int (nI h), .int (nI kw), .int (nI kh)])), (a1, .inl (cA, 4096, .inl fd)), (a2, .inl (cB, 4096, .inl g))]) [0, 1, 2] rfl
              have hKc := hK.sub (tys' := [(cA, .int), (cB, .int)]) [0, 1] rfl
              have hDc := hD.sub (ws' := [(h0, .inr (0, [.ref a1, .ref a2, .int (nI w), .int (nI h), .int (nI kw), .int (nI kh)])), (a1, .inl (cA, 4096, .inl fd)), (a2, .inl (cB, 4096, .inl g))]) [0, 1, 2] (by decide) rfl
              have hFc := va_free (wc := [(h0, .inr (0, [.ref a1, .ref a2, .int (nI w), .int (nI h), .int (nI kw), .int (nI kh)])), (a1, .inl (cA, 4096, .inl fd)), (a2, .inl (cB, 4096, .inl g))]) hD hS hA [0, 1, 2] rfl
              refine va_callv (va_runV (As := [.int (nI (64 * (8 * v0 + u0))), .int (nI (64 * (8 * u0 + v0)))]) (rest := []) ⟨hx, hb, hml, hown, hts⟩ (kX0_exchangeBlocks l dC dI H.size h0 a1 a2 cA cB fd g w h kw kh (8 * v0 + u0) (8 * u0 + v0) (by omega) (by omega)) (cwV 2 hts gX0_exchangeAcrossDiagonal_X0_exchangeBlocks rfl rfl rfl (by decide +kernel) ⟨Nat.le_of_ble_eq_true rfl, Nat.le_of_ble_eq_true rfl⟩) ⟨fun a U g mk q => by obtain ⟨q0, q1, qP, qK, qD⟩ := q; exact ⟨q0, q1, qP, va_K.moved (u := U) (U := U.calling g mk a) (Vm.Alike.refl U.vm) qK, qD⟩, va_recv hKc hPc (ci := 0) (q0 := 0) rfl rfl, fun U hU hW => ⟨rfl, by rw [hU], by rw [hU]; exact hPc, va_K.moved hW.alike hKc, hDc.weaken (fun _ _ _ _ => trivial)⟩⟩ rfl rfl hl.1 rfl (lv_room (Nat.le_of_ble_eq_true rfl)) dX0_exchangeAcrossDiagonal_25 ⟨Nat.le_of_ble_eq_true rfl, Nat.le_of_ble_eq_true rfl⟩) hS (fun q _ h => hFc q h) hFc (fun u25 t H1 locs ht hvm w25 hB hz1 hk1 hS => ?_)
              obtain ⟨hP1, -, hD1⟩ := hB
              rw [ht] at hP1
              try dsimp only at w25
              obtain ⟨hP, hD⟩ := va_join (wr := []) (w1 := [(h0, .inr (0, [.ref a1, .ref a2, .int (nI w), .int (nI h), .int (nI kw), .int (nI kh)])), (a1, .inl (cA, 4096, .inl u25)), (a2, .inl (cB, 4096, .inl g))]) hP hD [0, 1, 2] [] rfl rfl (by decide) (by decide) hk1 hFc hP1 hD1
              generalize H1 = H at hP hS ⊢
              have hP : va_P (dC, dI) vwCm [(h0, .inr (0, [.ref a1, .ref a2, .int (nI w), .int (nI h), .int (nI kw), .int (nI kh)])), (a1, .inl (cA, 4096, .inl u25)), (a2, .inl (cB, 4096, .inl g))] H := hP
              have hD : va_D A [(h0, .inr (0, [.ref a1, .ref a2, .int (nI w), .int (nI h), .int (nI kw), .int (nI kh)])), (a1, .inl (cA, 4096, .inl u25)), (a2, .inl (cB, 4096, .inl g))] := hD
              refine lv_iinc (v := nI (u0 + 1)) (lv' := [(3, .int (nI (u0 + 1))), (0, .ref h0), (1, .int (nI n)), (2, .int (nI v0))]) hx hb dX0_exchangeAcrossDiagonal_28 hl (k := 3) rfl (by rw [← nI_add]; rfl) (by decide) rfl (fun ls hl => ?_)
              refine lv_goto (tgt := 9) hx hb dX0_exchangeAcrossDiagonal_31 (by decide) ?_
              exact ih9 (u0 + 1) u25 (by omega) (by omega) (cf_xd_s hI1 (by omega) (by omega) w25) H locs hP hD hS ls (lv_sub hl [1, 2, 3, 0] rfl)
        exact lp9 (v0 + 1) 0 fc (by omega) (by omega) hI H locs hP hD hS ls (lv_sub hl [1, 2, 3, 0] rfl)
  exact lp2 (n + 1) 1 f (by omega) (by omega) cf_xd_0 s.heap [] hP hD hS ls (lv_sub hl [1, 2, 0] rfl)
set_option maxHeartbeats 4000000 in
set_option maxRecDepth 100000 in
/-- X0_fillBlock -/
theorem kX0_fillBlock (l : Launch) (dC : Nat → ClassId) (dI : Nat → Nat → Nat) (sz : Nat) (h0 a1 a2 : Nat) (cA cB : ClassId) (f g : Nat → Int32) (w h kw kh : Nat) (i : Nat) (seed : Int32) (hi : i < 64) : Met l yX0_fillBlock wsX0_fillBlock ({ frames := 0, cells := 0, slots := 0, locals := 0 }) (va_Pc [.ref h0, .int (nI (64 * i)), .int seed] (fun U => U.heap.size = sz ∧ va_P (dC, dI) vwCm [(h0, .inr (0, [.ref a1, .ref a2, .int (nI w), .int (nI h), .int (nI kw), .int (nI kh)])), (a1, .inl (cA, 4096, .inl f)), (a2, .inl (cB, 4096, .inl g))] U.heap ∧ va_K (dC, dI) vwCm [(cA, .int), (cB, .int)] U ∧ va_D (fun _ => True) [(h0, .inr (0, [.ref a1, .ref a2, .int (nI w), .int (nI h), .int (nI kw), .int (nI kh)])), (a1, .inl (cA, 4096, .inl f)), (a2, .inl (cB, 4096, .inl g))])) (va_Qv (fun u : Nat → Int32 => cf_fb i (cf_fil seed) f u) (fun (u : Nat → Int32) (t : State) => va_P (dC, dI) vwCm [(h0, .inr (0, [.ref a1, .ref a2, .int (nI w), .int (nI h), .int (nI kw), .int (nI kh)])), (a1, .inl (cA, 4096, .inl u)), (a2, .inl (cB, 4096, .inl g))] t.heap ∧ va_K (dC, dI) vwCm [(cA, .int), (cB, .int)] t ∧ va_D (va_A [(h0, .inr (0, [.ref a1, .ref a2, .int (nI w), .int (nI h), .int (nI kw), .int (nI kh)])), (a1, .inl (cA, 4096, .inl f)), (a2, .inl (cB, 4096, .inl g))] sz) [(h0, .inr (0, [.ref a1, .ref a2, .int (nI w), .int (nI h), .int (nI kw), .int (nI kh)])), (a1, .inl (cA, 4096, .inl u)), (a2, .inl (cB, 4096, .inl g))]) (va_A [(h0, .inr (0, [.ref a1, .ref a2, .int (nI w), .int (nI h), .int (nI kw), .int (nI kh)])), (a1, .inl (cA, 4096, .inl f)), (a2, .inl (cB, 4096, .inl g))] sz)) 0 0 (va_A [(h0, .inr (0, [.ref a1, .ref a2, .int (nI w), .int (nI h), .int (nI kw), .int (nI kh)])), (a1, .inl (cA, 4096, .inl f)), (a2, .inl (cB, 4096, .inl g))] sz) := by
  refine Met.ofW (cc := cX0_fillBlock) (maxL := 5) (ret := none) (by decide) rfl ?_
  intro p e s m args below meth c s₁ B hml hv
  obtain ⟨rfl, hsz, hP, hK, hD0⟩ := hv
  have hx := B.exec
  have hb := B.bytes
  have hr := B.returns
  have hts := atoms_spec (ws := wsX0_fillBlock) B.pre
  have hown : s.vm.findClass RX0 = some m.cls := findClass_of_methodNamed B.named
  have hlocks := B.notSynchronized
  subst hsz
  have hD := hD0.self (sz := s.heap.size)
  generalize hAe : va_A [(h0, .inr (0, [.ref a1, .ref a2, .int (nI w), .int (nI h), .int (nI kw), .int (nI kh)])), (a1, .inl (cA, 4096, .inl f)), (a2, .inl (cB, 4096, .inl g))] s.heap.size = A at hD ⊢
  have hA : ∀ q : Nat, s.heap.size ≤ q → A q := fun q h => by rw [← hAe]; exact Or.inr h
  have hS : va_S A s.heap s.heap [] := va_S.rf
  have hP : va_P (dC, dI) vwCm [(h0, .inr (0, [.ref a1, .ref a2, .int (nI w), .int (nI h), .int (nI kw), .int (nI kh)])), (a1, .inl (cA, 4096, .inl f)), (a2, .inl (cB, 4096, .inl g))] s.heap := hP
  have hl := lv_entry ([.ref h0, .int (nI (64 * i)), .int seed]) (n := 5) (Nat.le_of_ble_eq_true rfl)
  rw [lg_entry_eq]
  generalize (lg_sl ([.ref h0, .int (nI (64 * i)), .int seed]) ++ List.replicate (5 - (lg_sl ([.ref h0, .int (nI (64 * i)), .int seed])).length) Slot.unset).toArray = ls at hl ⊢
  have hl : lv_has ls 5 [(0, .ref h0), (1, .int (nI (64 * i))), (2, .int seed)] := hl
  refine lv_iload_n hx hb dX0_fillBlock_0 rfl (lv_at hl 1 rfl) ?_
  refine lv_istore_n (lv' := [(3, .int (nI (64 * i))), (0, .ref h0), (1, .int (nI (64 * i))), (2, .int seed)]) hx hb dX0_fillBlock_1 rfl hl (by decide) rfl (fun ls hl => ?_)
  have lp2 : ∀ (n2 : Nat) (k : Nat) (fc : Nat → Int32), k ≤ 64 * i + 64 → 64 * i + 64 < k + n2 → cf_fk i (cf_fil seed) k f fc → 64 * i ≤ k → ∀ (H : Heap) (locs : List Loc), va_P (dC, dI) vwCm [(h0, .inr (0, [.ref a1, .ref a2, .int (nI w), .int (nI h), .int (nI kw), .int (nI kh)])), (a1, .inl (cA, 4096, .inl fc)), (a2, .inl (cB, 4096, .inl g))] H → va_D A [(h0, .inr (0, [.ref a1, .ref a2, .int (nI w), .int (nI h), .int (nI kw), .int (nI kh)])), (a1, .inl (cA, 4096, .inl fc)), (a2, .inl (cB, 4096, .inl g))] → va_S A s.heap H locs → ∀ (ls : Array Slot), lv_has ls 5 [(0, .ref h0), (1, .int (nI (64 * i))), (2, .int seed), (3, .int (nI k))] → W p l e (headSpec wsX0_fillBlock ({ frames := 0, cells := 0, slots := 0, locals := 0 })).room s m ([.ref h0, .int (nI (64 * i)), .int seed] : List Value).toArray below meth c H locs 0 0 (MQ below (va_Qv (fun u : Nat → Int32 => cf_fb i (cf_fil seed) f u) (fun (u : Nat → Int32) (t : State) => va_P (dC, dI) vwCm [(h0, .inr (0, [.ref a1, .ref a2, .int (nI w), .int (nI h), .int (nI kw), .int (nI kh)])), (a1, .inl (cA, 4096, .inl u)), (a2, .inl (cB, 4096, .inl g))] t.heap ∧ va_K (dC, dI) vwCm [(cA, .int), (cB, .int)] t ∧ va_D A [(h0, .inr (0, [.ref a1, .ref a2, .int (nI w), .int (nI h), .int (nI kw), .int (nI kh)])), (a1, .inl (cA, 4096, .inl u)), (a2, .inl (cB, 4096, .inl g))]) A) ([.ref h0, .int (nI (64 * i)), .int seed] : List Value).toArray s 0 0 A) (F0 m 2 ls []) := by
    intro n2
    induction n2 with
    | zero => intro k fc h1 h2; exact absurd h2 (by omega)
    | succ n2 ih2 =>
      intro k fc hk2 hn2 hI hk2 H locs hP hD hS ls hl
      refine lv_iload_n hx hb dX0_fillBlock_2 rfl (lv_at hl 3 rfl) ?_
      refine lv_iload_n hx hb dX0_fillBlock_3 rfl (lv_at hl 1 rfl) ?_
      refine lv_bipush (v := nI 64) hx hb dX0_fillBlock_4 (by decide +kernel) ?_
      refine lv_iadd hx hb dX0_fillBlock_6 ?_
      refine cf_top (nI_add _ _) ?_
      refine lv_icmp_ge (tgt := 46) hx hb dX0_fillBlock_7 (by decide) (fun c7 => ?_) (fun c7 => ?_)
      · skip
        have c7 := (nI_leI (a := 64 * i + 64) (b := k) (by omega) (by omega)).mp c7
        have hP9 := hP.sub (ws' := [(h0, .inr (0, [.ref a1, .ref a2, .int (nI w), .int (nI h), .int (nI kw), .int (nI kh)])), (a1, .inl (cA, 4096, .inl fc)), (a2, .inl (cB, 4096, .inl g))]) [0, 1, 2] rfl
        have hD9 := hD.sub (ws' := [(h0, .inr (0, [.ref a1, .ref a2, .int (nI w), .int (nI h), .int (nI kw), .int (nI kh)])), (a1, .inl (cA, 4096, .inl fc)), (a2, .inl (cB, 4096, .inl g))]) [0, 1, 2] (by decide) rfl
        exact W.vret hx hb hr (fun t ht hW => ⟨⟨fc, rfl, (by have e : k = 64 * i + 64 := (by omega); rw [e] at hI; exact hI), by rw [ht]; exact hP9, va_K.moved hW.alike hK, hD9⟩, hS.F ht⟩) hS.2.2 dX0_fillBlock_46
      · skip
        have c7 := mt (nI_leI (a := 64 * i + 64) (b := k) (by omega) (by omega)).mpr c7
        refine lv_iload_n hx hb dX0_fillBlock_10 rfl (lv_at hl 2 rfl) ?_
        refine lv_iload_n hx hb dX0_fillBlock_11 rfl (lv_at hl 3 rfl) ?_
        refine lv_ldc (v := nI 40503) hx hb hown (hts (.constant RX0 110 40503) (by decide +kernel)) dX0_fillBlock_12 ?_
        refine lv_imul hx hb dX0_fillBlock_14 ?_
        refine lv_iadd hx hb dX0_fillBlock_15 ?_
        refine lv_ldc (v := (-1640531535)) hx hb hown (hts (.constant RX0 111 ((-1640531535))) (by decide +kernel)) dX0_fillBlock_16 ?_
        refine lv_imul hx hb dX0_fillBlock_18 ?_
        refine lv_istore (lv' := [(4, .int ((seed + ((nI k) * (nI 40503))) * ((-1640531535)))), (0, .ref h0), (1, .int (nI (64 * i))), (2, .int seed), (3, .int (nI k))]) hx hb dX0_fillBlock_19 hl (by decide) rfl (fun ls hl => ?_)
        refine lv_aload_n hx hb dX0_fillBlock_21 rfl (lv_at hl 1 rfl) ?_
        refine va_get (D := (dC, dI)) (ci := 0) (v := .ref a1) (C := RX0) (T := TX0) (N := 6) hx hb hts (by decide +kernel) hown hK hP 0 rfl rfl 0 (by decide) (hts (.fieldLink RX0 26 "CoefTurns" "cells" "[I") (by decide +kernel)) (fun _ h9 => h9) rfl dX0_fillBlock_22 ?_
        refine lv_iload_n hx hb dX0_fillBlock_25 rfl (lv_at hl 4 rfl) ?_
        refine lv_iload hx hb dX0_fillBlock_26 (lv_at hl 0 rfl) ?_
        refine lv_bipush (v := nI 20) hx hb dX0_fillBlock_28 (by decide +kernel) ?_
        refine lv_iushr hx hb dX0_fillBlock_30 rfl ?_
        refine lv_sipush (v := nI 2047) hx hb dX0_fillBlock_31 (by decide +kernel) ?_
        refine lv_irem hx hb dX0_fillBlock_34 (nI_ne0 (by omega) (by omega)) ?_
        refine lv_sipush (v := nI 1023) hx hb dX0_fillBlock_35 (by decide +kernel) ?_
        refine lv_isub hx hb dX0_fillBlock_38 ?_
        refine cf_iast (D := (dC, dI)) hx hb hK hP hD hS 1 0 rfl rfl (k := k) (by omega) (by decide) dX0_fillBlock_39 (fun H locs hP hD hS => ?_)
        have hP : va_P (dC, dI) vwCm [(h0, .inr (0, [.ref a1, .ref a2, .int (nI w), .int (nI h), .int (nI kw), .int (nI kh)])), (a1, .inl (cA, 4096, .inl (upd fc k ((((((seed + ((nI k) * (nI 40503))) * ((-1640531535))).toUInt32 >>> ((nI 20).toUInt32 &&& Int32.toUInt32 31)).toInt32) - ((((seed + ((nI k) * (nI 40503))) * ((-1640531535))).toUInt32 >>> ((nI 20).toUInt32 &&& Int32.toUInt32 31)).toInt32) / (nI 2047) * (nI 2047)) - (nI 1023))))), (a2, .inl (cB, 4096, .inl g))] H := hP
        have hD : va_D A [(h0, .inr (0, [.ref a1, .ref a2, .int (nI w), .int (nI h), .int (nI kw), .int (nI kh)])), (a1, .inl (cA, 4096, .inl (upd fc k ((((((seed + ((nI k) * (nI 40503))) * ((-1640531535))).toUInt32 >>> ((nI 20).toUInt32 &&& Int32.toUInt32 31)).toInt32) - ((((seed + ((nI k) * (nI 40503))) * ((-1640531535))).toUInt32 >>> ((nI 20).toUInt32 &&& Int32.toUInt32 31)).toInt32) / (nI 2047) * (nI 2047)) - (nI 1023))))), (a2, .inl (cB, 4096, .inl g))] := hD
        refine lv_iinc (v := nI (k + 1)) (lv' := [(3, .int (nI (k + 1))), (4, .int ((seed + ((nI k) * (nI 40503))) * ((-1640531535)))), (0, .ref h0), (1, .int (nI (64 * i))), (2, .int seed)]) hx hb dX0_fillBlock_40 hl (k := 4) rfl (by rw [← nI_add]; rfl) (by decide) rfl (fun ls hl => ?_)
        refine lv_goto (tgt := 2) hx hb dX0_fillBlock_43 (by decide) ?_
        exact ih2 (k + 1) (upd fc k ((((((seed + ((nI k) * (nI 40503))) * ((-1640531535))).toUInt32 >>> ((nI 20).toUInt32 &&& Int32.toUInt32 31)).toInt32) - ((((seed + ((nI k) * (nI 40503))) * ((-1640531535))).toUInt32 >>> ((nI 20).toUInt32 &&& Int32.toUInt32 31)).toInt32) / (nI 2047) * (nI 2047)) - (nI 1023))) (by omega) (by omega) (cf_fk_s hI hk2) (by omega) H locs hP hD hS ls (lv_sub hl [2, 3, 4, 0] rfl)
  exact lp2 (64 * i + 64 + 1) (64 * i) f (by omega) (by omega) cf_fk_0 (Nat.le_refl _) s.heap [] hP hD hS ls (lv_sub hl [1, 2, 3, 0] rfl)
set_option maxHeartbeats 4000000 in
set_option maxRecDepth 100000 in
/-- X0_negatePlaces -/
theorem kX0_negatePlaces (l : Launch) (dC : Nat → ClassId) (dI : Nat → Nat → Nat) (sz : Nat) (h0 a1 a2 : Nat) (cA cB : ClassId) (f g : Nat → Int32) (w h kw kh : Nat) (b : Nat) (hw : w ≤ 8) (hh : h ≤ 8) (hb1 : b = 1 ∨ b = 8) : Met l yX0_negatePlaces wsX0_negatePlaces ({ frames := 1, cells := 0, slots := 0, locals := 21 }) (va_Pc [.ref h0, .int (nI b)] (fun U => U.heap.size = sz ∧ va_P (dC, dI) vwCm [(h0, .inr (0, [.ref a1, .ref a2, .int (nI w), .int (nI h), .int (nI kw), .int (nI kh)])), (a1, .inl (cA, 4096, .inl f)), (a2, .inl (cB, 4096, .inl g))] U.heap ∧ va_K (dC, dI) vwCm [(cA, .int), (cB, .int)] U ∧ va_D (fun _ => True) [(h0, .inr (0, [.ref a1, .ref a2, .int (nI w), .int (nI h), .int (nI kw), .int (nI kh)])), (a1, .inl (cA, 4096, .inl f)), (a2, .inl (cB, 4096, .inl g))])) (va_Qv (fun u : Nat → Int32 => cf_Ag w h (cf_V u) (cf_nG b (cf_V f))) (fun (u : Nat → Int32) (t : State) => va_P (dC, dI) vwCm [(h0, .inr (0, [.ref a1, .ref a2, .int (nI w), .int (nI h), .int (nI kw), .int (nI kh)])), (a1, .inl (cA, 4096, .inl u)), (a2, .inl (cB, 4096, .inl g))] t.heap ∧ va_K (dC, dI) vwCm [(cA, .int), (cB, .int)] t ∧ va_D (va_A [(h0, .inr (0, [.ref a1, .ref a2, .int (nI w), .int (nI h), .int (nI kw), .int (nI kh)])), (a1, .inl (cA, 4096, .inl f)), (a2, .inl (cB, 4096, .inl g))] sz) [(h0, .inr (0, [.ref a1, .ref a2, .int (nI w), .int (nI h), .int (nI kw), .int (nI kh)])), (a1, .inl (cA, 4096, .inl u)), (a2, .inl (cB, 4096, .inl g))]) (va_A [(h0, .inr (0, [.ref a1, .ref a2, .int (nI w), .int (nI h), .int (nI kw), .int (nI kh)])), (a1, .inl (cA, 4096, .inl f)), (a2, .inl (cB, 4096, .inl g))] sz)) 0 0 (va_A [(h0, .inr (0, [.ref a1, .ref a2, .int (nI w), .int (nI h), .int (nI kw), .int (nI kh)])), (a1, .inl (cA, 4096, .inl f)), (a2, .inl (cB, 4096, .inl g))] sz) := by
  refine Met.ofW (cc := cX0_negatePlaces) (maxL := 5) (ret := none) (by decide) rfl ?_
  intro p e s m args below meth c s₁ B hml hv
  obtain ⟨rfl, hsz, hP, hK, hD0⟩ := hv
  have hx := B.exec
  have hb := B.bytes
  have hr := B.returns
  have hts := atoms_spec (ws := wsX0_negatePlaces) B.pre
  have hown : s.vm.findClass RX0 = some m.cls := findClass_of_methodNamed B.named
  have hlocks := B.notSynchronized
  subst hsz
  have hD := hD0.self (sz := s.heap.size)
  generalize hAe : va_A [(h0, .inr (0, [.ref a1, .ref a2, .int (nI w), .int (nI h), .int (nI kw), .int (nI kh)])), (a1, .inl (cA, 4096, .inl f)), (a2, .inl (cB, 4096, .inl g))] s.heap.size = A at hD ⊢
  have hA : ∀ q : Nat, s.heap.size ≤ q → A q := fun q h => by rw [← hAe]; exact Or.inr h
  have hS : va_S A s.heap s.heap [] := va_S.rf
  have hP : va_P (dC, dI) vwCm [(h0, .inr (0, [.ref a1, .ref a2, .int (nI w), .int (nI h), .int (nI kw), .int (nI kh)])), (a1, .inl (cA, 4096, .inl f)), (a2, .inl (cB, 4096, .inl g))] s.heap := hP
  have hl := lv_entry ([.ref h0, .int (nI b)]) (n := 5) (Nat.le_of_ble_eq_true rfl)
  rw [lg_entry_eq]
  generalize (lg_sl ([.ref h0, .int (nI b)]) ++ List.replicate (5 - (lg_sl ([.ref h0, .int (nI b)])).length) Slot.unset).toArray = ls at hl ⊢
  have hl : lv_has ls 5 [(0, .ref h0), (1, .int (nI b))] := hl
  refine lv_iconst (v := nI 0) hx hb dX0_negatePlaces_0 (by decide +kernel) ?_
  refine lv_istore_n (lv' := [(2, .int (nI 0)), (0, .ref h0), (1, .int (nI b))]) hx hb dX0_negatePlaces_1 rfl hl (by decide) rfl (fun ls hl => ?_)
  have lp2 : ∀ (n2 : Nat) (y0 : Nat) (fc : Nat → Int32), y0 ≤ h → h < y0 + n2 → cf_ng b w y0 0 f fc → ∀ (H : Heap) (locs : List Loc), va_P (dC, dI) vwCm [(h0, .inr (0, [.ref a1, .ref a2, .int (nI w), .int (nI h), .int (nI kw), .int (nI kh)])), (a1, .inl (cA, 4096, .inl fc)), (a2, .inl (cB, 4096, .inl g))] H → va_D A [(h0, .inr (0, [.ref a1, .ref a2, .int (nI w), .int (nI h), .int (nI kw), .int (nI kh)])), (a1, .inl (cA, 4096, .inl fc)), (a2, .inl (cB, 4096, .inl g))] → va_S A s.heap H locs → ∀ (ls : Array Slot), lv_has ls 5 [(0, .ref h0), (1, .int (nI b)), (2, .int (nI y0))] → W p l e (headSpec wsX0_negatePlaces ({ frames := 1, cells := 0, slots := 0, locals := 21 })).room s m ([.ref h0, .int (nI b)] : List Value).toArray below meth c H locs 0 0 (MQ below (va_Qv (fun u : Nat → Int32 => cf_Ag w h (cf_V u) (cf_nG b (cf_V f))) (fun (u : Nat → Int32) (t : State) => va_P (dC, dI) vwCm [(h0, .inr (0, [.ref a1, .ref a2, .int (nI w), .int (nI h), .int (nI kw), .int (nI kh)])), (a1, .inl (cA, 4096, .inl u)), (a2, .inl (cB, 4096, .inl g))] t.heap ∧ va_K (dC, dI) vwCm [(cA, .int), (cB, .int)] t ∧ va_D A [(h0, .inr (0, [.ref a1, .ref a2, .int (nI w), .int (nI h), .int (nI kw), .int (nI kh)])), (a1, .inl (cA, 4096, .inl u)), (a2, .inl (cB, 4096, .inl g))]) A) ([.ref h0, .int (nI b)] : List Value).toArray s 0 0 A) (F0 m 2 ls []) := by
    intro n2
    induction n2 with
    | zero => intro y0 fc h1 h2; exact absurd h2 (by omega)
    | succ n2 ih2 =>
      intro y0 fc hk2 hn2 hI H locs hP hD hS ls hl
      refine lv_iload_n hx hb dX0_negatePlaces_2 rfl (lv_at hl 2 rfl) ?_
      refine lv_aload_n hx hb dX0_negatePlaces_3 rfl (lv_at hl 0 rfl) ?_
      refine va_get (D := (dC, dI)) (ci := 0) (v := .int (nI h)) (C := RX0) (T := TX0) (N := 6) hx hb hts (by decide +kernel) hown hK hP 0 rfl rfl 3 (by decide) (hts (.fieldLink RX0 17 "CoefTurns" "height" "I") (by decide +kernel)) (fun _ h9 => h9) rfl dX0_negatePlaces_4 ?_
      refine lv_icmp_ge (tgt := 66) hx hb dX0_negatePlaces_7 (by decide) (fun c7 => ?_) (fun c7 => ?_)
      · skip
        have c7 := (nI_leI (a := h) (b := y0) (by omega) (by omega)).mp c7
        have hP9 := hP.sub (ws' := [(h0, .inr (0, [.ref a1, .ref a2, .int (nI w), .int (nI h), .int (nI kw), .int (nI kh)])), (a1, .inl (cA, 4096, .inl fc)), (a2, .inl (cB, 4096, .inl g))]) [0, 1, 2] rfl
        have hD9 := hD.sub (ws' := [(h0, .inr (0, [.ref a1, .ref a2, .int (nI w), .int (nI h), .int (nI kw), .int (nI kh)])), (a1, .inl (cA, 4096, .inl fc)), (a2, .inl (cB, 4096, .inl g))]) [0, 1, 2] (by decide) rfl
        exact W.vret hx hb hr (fun t ht hW => ⟨⟨fc, rfl, (by have e : y0 = h := (by omega); rw [e] at hI; exact cf_ng_e hI), by rw [ht]; exact hP9, va_K.moved hW.alike hK, hD9⟩, hS.F ht⟩) hS.2.2 dX0_negatePlaces_66
      · skip
        have c7 := mt (nI_leI (a := h) (b := y0) (by omega) (by omega)).mpr c7
        refine lv_aload_n hx hb dX0_negatePlaces_10 rfl (lv_at hl 0 rfl) ?_
        refine va_get (D := (dC, dI)) (ci := 0) (v := .int (nI w)) (C := RX0) (T := TX0) (N := 6) hx hb hts (by decide +kernel) hown hK hP 0 rfl rfl 2 (by decide) (hts (.fieldLink RX0 13 "CoefTurns" "width" "I") (by decide +kernel)) (fun _ h9 => h9) rfl dX0_negatePlaces_11 ?_
        refine lv_iload_n hx hb dX0_negatePlaces_14 rfl (lv_at hl 2 rfl) ?_
        refine vp_callSi (W.runS (As := [.int (nI w), .int (nI y0)]) (rest := []) ⟨hx, hb, hml, hown, hts⟩ (kX0_blockStart l w y0) (va_cwS 2 hts gX0_negatePlaces_X0_blockStart rfl rfl rfl (by decide +kernel) ⟨Nat.le_of_ble_eq_true rfl, Nat.le_of_ble_eq_true rfl⟩) ⟨fun a U g mk q => q, fun U hU hW => ⟨rfl, trivial⟩⟩ rfl rfl hl.1 rfl (lv_room (Nat.le_of_ble_eq_true rfl)) dX0_negatePlaces_15 ⟨Nat.le_of_ble_eq_true rfl, Nat.le_of_ble_eq_true rfl⟩) (fun r15 w15 => ?_)
        subst w15
        refine lv_istore_n (lv' := [(3, .int (nI (64 * (8 * y0 + w)))), (0, .ref h0), (1, .int (nI b)), (2, .int (nI y0))]) hx hb dX0_negatePlaces_18 rfl hl (by decide) rfl (fun ls hl => ?_)
        refine lv_iconst (v := nI 0) hx hb dX0_negatePlaces_19 (by decide +kernel) ?_
        refine lv_iload_n hx hb dX0_negatePlaces_20 rfl (lv_at hl 3 rfl) ?_
        refine vp_callSi (W.runS (As := [.int (nI 0), .int (nI y0)]) (rest := []) ⟨hx, hb, hml, hown, hts⟩ (kX0_blockStart l 0 y0) (va_cwS 2 hts gX0_negatePlaces_X0_blockStart rfl rfl rfl (by decide +kernel) ⟨Nat.le_of_ble_eq_true rfl, Nat.le_of_ble_eq_true rfl⟩) ⟨fun a U g mk q => q, fun U hU hW => ⟨rfl, trivial⟩⟩ rfl rfl hl.1 rfl (lv_room (Nat.le_of_ble_eq_true rfl)) dX0_negatePlaces_21 ⟨Nat.le_of_ble_eq_true rfl, Nat.le_of_ble_eq_true rfl⟩) (fun r21 w21 => ?_)
        subst w21
        refine lv_istore (lv' := [(4, .int (nI (64 * (8 * y0 + 0)))), (3, .int (nI (64 * (8 * y0 + w)))), (0, .ref h0), (1, .int (nI b)), (2, .int (nI y0))]) hx hb dX0_negatePlaces_24 hl (by decide) rfl (fun ls hl => ?_)
        have lp26 : ∀ (n26 : Nat) (k : Nat) (fd : Nat → Int32), k ≤ 64 * (8 * y0 + w) → 64 * (8 * y0 + w) < k + n26 → cf_ng b w y0 (k - 512 * y0) f fd → 512 * y0 ≤ k → ∀ (H : Heap) (locs : List Loc), va_P (dC, dI) vwCm [(h0, .inr (0, [.ref a1, .ref a2, .int (nI w), .int (nI h), .int (nI kw), .int (nI kh)])), (a1, .inl (cA, 4096, .inl fd)), (a2, .inl (cB, 4096, .inl g))] H → va_D A [(h0, .inr (0, [.ref a1, .ref a2, .int (nI w), .int (nI h), .int (nI kw), .int (nI kh)])), (a1, .inl (cA, 4096, .inl fd)), (a2, .inl (cB, 4096, .inl g))] → va_S A s.heap H locs → ∀ (ls : Array Slot), lv_has ls 5 [(0, .ref h0), (1, .int (nI b)), (2, .int (nI y0)), (3, .int (nI (64 * (8 * y0 + w)))), (4, .int (nI k))] → W p l e (headSpec wsX0_negatePlaces ({ frames := 1, cells := 0, slots := 0, locals := 21 })).room s m ([.ref h0, .int (nI b)] : List Value).toArray below meth c H locs 0 0 (MQ below (va_Qv (fun u : Nat → Int32 => cf_Ag w h (cf_V u) (cf_nG b (cf_V f))) (fun (u : Nat → Int32) (t : State) => va_P (dC, dI) vwCm [(h0, .inr (0, [.ref a1, .ref a2, .int (nI w), .int (nI h), .int (nI kw), .int (nI kh)])), (a1, .inl (cA, 4096, .inl u)), (a2, .inl (cB, 4096, .inl g))] t.heap ∧ va_K (dC, dI) vwCm [(cA, .int), (cB, .int)] t ∧ va_D A [(h0, .inr (0, [.ref a1, .ref a2, .int (nI w), .int (nI h), .int (nI kw), .int (nI kh)])), (a1, .inl (cA, 4096, .inl u)), (a2, .inl (cB, 4096, .inl g))]) A) ([.ref h0, .int (nI b)] : List Value).toArray s 0 0 A) (F0 m 26 ls []) := by
          intro n26
          induction n26 with
          | zero => intro k fd h1 h2; exact absurd h2 (by omega)
          | succ n26 ih26 =>
            intro k fd hk26 hn26 hI1 hk1 H locs hP hD hS ls hl
            refine lv_iload hx hb dX0_negatePlaces_26 (lv_at hl 4 rfl) ?_
            refine lv_iload_n hx hb dX0_negatePlaces_28 rfl (lv_at hl 3 rfl) ?_
            refine lv_icmp_ge (tgt := 60) hx hb dX0_negatePlaces_29 (by decide) (fun c29 => ?_) (fun c29 => ?_)
            · skip
              have c29 := (nI_leI (a := 64 * (8 * y0 + w)) (b := k) (by omega) (by omega)).mp c29
              refine lv_iinc (v := nI (y0 + 1)) (lv' := [(2, .int (nI (y0 + 1))), (0, .ref h0), (1, .int (nI b)), (3, .int (nI (64 * (8 * y0 + w)))), (4, .int (nI k))]) hx hb dX0_negatePlaces_60 hl (k := 2) rfl (by rw [← nI_add]; rfl) (by decide) rfl (fun ls hl => ?_)
              refine lv_goto (tgt := 2) hx hb dX0_negatePlaces_63 (by decide) ?_
              exact ih2 (y0 + 1) fd (by omega) (by omega) (cf_ng_w hI1 (by omega)) H locs hP hD hS ls (lv_sub hl [1, 2, 0] rfl)
            · skip
              have c29 := mt (nI_leI (a := 64 * (8 * y0 + w)) (b := k) (by omega) (by omega)).mpr c29
              refine lv_iload hx hb dX0_negatePlaces_32 (lv_at hl 4 rfl) ?_
              refine lv_iload_n hx hb dX0_negatePlaces_34 rfl (lv_at hl 1 rfl) ?_
              refine lv_iand hx hb dX0_negatePlaces_35 ?_
              refine lv_if_eq (tgt := 54) hx hb dX0_negatePlaces_36 (by decide) (fun c36 => ?_) (fun c36 => ?_)
              · skip
                refine lv_iinc (v := nI (k + 1)) (lv' := [(4, .int (nI (k + 1))), (0, .ref h0), (1, .int (nI b)), (2, .int (nI y0)), (3, .int (nI (64 * (8 * y0 + w))))]) hx hb dX0_negatePlaces_54 hl (k := 4) rfl (by rw [← nI_add]; rfl) (by decide) rfl (fun ls hl => ?_)
                refine lv_goto (tgt := 26) hx hb dX0_negatePlaces_57 (by decide) ?_
                exact ih26 (k + 1) fd (by omega) (by omega) (by first | exact cf_ng_n2 hI1 hb1 hw hk1 (by omega) ((cf_bit b hb1 k (by omega)).mp c36) | exact cf_ng_k2 hI1 hb1 hw hk1 (by omega) (fun o => (cf_bit b hb1 k (by omega)).mpr o c36)) (by omega) H locs hP hD hS ls (lv_sub hl [1, 2, 3, 4, 0] rfl)
              · skip
                refine lv_aload_n hx hb dX0_negatePlaces_39 rfl (lv_at hl 0 rfl) ?_
                refine va_get (D := (dC, dI)) (ci := 0) (v := .ref a1) (C := RX0) (T := TX0) (N := 6) hx hb hts (by decide +kernel) hown hK hP 0 rfl rfl 0 (by decide) (hts (.fieldLink RX0 26 "CoefTurns" "cells" "[I") (by decide +kernel)) (fun _ h9 => h9) rfl dX0_negatePlaces_40 ?_
                refine lv_iload hx hb dX0_negatePlaces_43 (lv_at hl 4 rfl) ?_
                refine lv_aload_n hx hb dX0_negatePlaces_45 rfl (lv_at hl 0 rfl) ?_
                refine va_get (D := (dC, dI)) (ci := 0) (v := .ref a1) (C := RX0) (T := TX0) (N := 6) hx hb hts (by decide +kernel) hown hK hP 0 rfl rfl 0 (by decide) (hts (.fieldLink RX0 26 "CoefTurns" "cells" "[I") (by decide +kernel)) (fun _ h9 => h9) rfl dX0_negatePlaces_46 ?_
                refine lv_iload hx hb dX0_negatePlaces_49 (lv_at hl 4 rfl) ?_
                refine cf_iald (D := (dC, dI)) hx hb hK hP 1 0 rfl rfl (k := k) (by omega) (by decide) dX0_negatePlaces_51 ?_
                refine lv_ineg hx hb dX0_negatePlaces_52 ?_
                refine cf_iast (D := (dC, dI)) hx hb hK hP hD hS 1 0 rfl rfl (k := k) (by omega) (by decide) dX0_negatePlaces_53 (fun H locs hP hD hS => ?_)
                have hP : va_P (dC, dI) vwCm [(h0, .inr (0, [.ref a1, .ref a2, .int (nI w), .int (nI h), .int (nI kw), .int (nI kh)])), (a1, .inl (cA, 4096, .inl (upd fd k (-(fd k))))), (a2, .inl (cB, 4096, .inl g))] H := hP
                have hD : va_D A [(h0, .inr (0, [.ref a1, .ref a2, .int (nI w), .int (nI h), .int (nI kw), .int (nI kh)])), (a1, .inl (cA, 4096, .inl (upd fd k (-(fd k))))), (a2, .inl (cB, 4096, .inl g))] := hD
                refine lv_iinc (v := nI (k + 1)) (lv' := [(4, .int (nI (k + 1))), (0, .ref h0), (1, .int (nI b)), (2, .int (nI y0)), (3, .int (nI (64 * (8 * y0 + w))))]) hx hb dX0_negatePlaces_54 hl (k := 4) rfl (by rw [← nI_add]; rfl) (by decide) rfl (fun ls hl => ?_)
                refine lv_goto (tgt := 26) hx hb dX0_negatePlaces_57 (by decide) ?_
                exact ih26 (k + 1) (upd fd k (-(fd k))) (by omega) (by omega) (by first | exact cf_ng_n2 hI1 hb1 hw hk1 (by omega) ((cf_bit b hb1 k (by omega)).mp c36) | exact cf_ng_k2 hI1 hb1 hw hk1 (by omega) (fun o => (cf_bit b hb1 k (by omega)).mpr o c36)) (by omega) H locs hP hD hS ls (lv_sub hl [1, 2, 3, 4, 0] rfl)
        exact lp26 (64 * (8 * y0 + w) + 1) (64 * (8 * y0 + 0)) fc (by omega) (by omega) (cf_ng_z hI (by omega)) (by omega) H locs hP hD hS ls (lv_sub hl [2, 3, 4, 1, 0] rfl)
  exact lp2 (h + 1) 0 f (by omega) (by omega) cf_ng_0 s.heap [] hP hD hS ls (lv_sub hl [1, 2, 0] rfl)
