set_option maxHeartbeats 4000000 in
set_option maxRecDepth 100000 in
/-- X0_four -/
theorem kX0_four (l : Launch) (dC : Nat → ClassId) (dI : Nat → Nat → Nat) (h0 a1 a2 : Nat) (cA cB : ClassId) (f g : Nat → Int32) (w h kw kh : Nat) (bx bz v t : Int32) (hw : w ≤ 8) (hh : h ≤ 8) : Met l yX0_four wsX0_four ({ frames := 1, cells := 0, slots := 0, locals := 22 }) (va_Pc [.ref h0, .int bx, .int bz, .int v, .int t] (fun U => va_P (dC, dI) vwCm [(h0, .inr (0, [.ref a1, .ref a2, .int (nI w), .int (nI h), .int (nI kw), .int (nI kh)])), (a1, .inl (cA, 4096, .inl f)), (a2, .inl (cB, 4096, .inl g))] U.heap ∧ va_K (dC, dI) vwCm [(cA, .int), (cB, .int)] U)) (vp_Sl (fun r : Int64 => r = cf_fou w h (cf_V f) bx bz v t)) 0 0 (fun _ => False) := by
  refine Met.ofW (cc := cX0_four) (maxL := 9) (ret := (some .long)) (by decide) rfl ?_
  intro p e s m args below meth c s₁ B hml hv
  obtain ⟨rfl, hP, hK⟩ := hv
  have hx := B.exec
  have hb := B.bytes
  have hr := B.returns
  have hts := atoms_spec (ws := wsX0_four) B.pre
  have hown : s.vm.findClass RX0 = some m.cls := findClass_of_methodNamed B.named
  have hlocks := B.notSynchronized
  have hl := lv_entry ([.ref h0, .int bx, .int bz, .int v, .int t]) (n := 9) (Nat.le_of_ble_eq_true rfl)
  rw [lg_entry_eq]
  generalize (lg_sl ([.ref h0, .int bx, .int bz, .int v, .int t]) ++ List.replicate (9 - (lg_sl ([.ref h0, .int bx, .int bz, .int v, .int t])).length) Slot.unset).toArray = ls at hl ⊢
  have hl : lv_has ls 9 [(0, .ref h0), (1, .int bx), (2, .int bz), (3, .int v), (4, .int t)] := hl
  refine lv_aload_n hx hb dX0_four_0 rfl (lv_at hl 0 rfl) ?_
  refine lv_iload_n hx hb dX0_four_1 rfl (lv_at hl 1 rfl) ?_
  refine lv_iload_n hx hb dX0_four_2 rfl (lv_at hl 2 rfl) ?_
  have hPc := hP.sub (ws' := [(h0, .inr (0, [.ref a1, .ref a2, .int (nI w), .int (nI h), .int (nI kw), .int (nI kh)])), (a1, .inl (cA, 4096, .inl f)), (a2, .inl (cB, 4096, .inl g))]) [0, 1, 2] rfl
  have hKc := hK.sub (tys' := [(cA, .int), (cB, .int)]) [0, 1] rfl
  refine vp_callSi (W.runV (As := [.int bx, .int bz]) (rest := []) ⟨hx, hb, hml, hown, hts⟩ (kX0_isBlock l dC dI h0 a1 a2 cA cB f g w h kw kh bx bz) (cwV 2 hts gX0_four_X0_isBlock rfl rfl rfl (by decide +kernel) ⟨Nat.le_of_ble_eq_true rfl, Nat.le_of_ble_eq_true rfl⟩) ⟨fun a U g mk q => by obtain ⟨q0, qP, qK⟩ := q; exact ⟨q0, qP, va_K.moved (u := U) (U := U.calling g mk a) (Vm.Alike.refl U.vm) qK⟩, va_recv hKc hPc (ci := 0) (q0 := 0) rfl rfl, fun U hU hW => ⟨rfl, by rw [hU]; exact hPc, va_K.moved hW.alike hKc⟩⟩ rfl rfl hl.1 rfl (lv_room (Nat.le_of_ble_eq_true rfl)) dX0_four_3 ⟨Nat.le_of_ble_eq_true rfl, Nat.le_of_ble_eq_true rfl⟩) (fun r3 w3 => ?_)
  subst w3
  refine lv_if_eq (tgt := 30) hx hb dX0_four_6 (by decide) (fun c6 => ?_) (fun c6 => ?_)
  · skip
    refine lv_lconst (v := 0) hx hb dX0_four_30 (by decide +kernel) ?_
    exact W.lret hx hb hr (fun t ht hW => ⟨_, rfl, (by unfold cf_fou; first | rw [if_pos c6] | rw [if_neg c6, if_pos c10] | rw [if_neg c6, if_neg c10, if_pos c16] | rw [if_neg c6, if_neg c10, if_neg c16, if_pos c21] | rw [if_neg c6, if_neg c10, if_neg c16, if_neg c21, if_pos (cf_nle c27)]), ht⟩) (fun q h => by cases h) dX0_four_31
  · skip
    obtain ⟨x, z, hx_, hz_, ebx, ebz⟩ := cf_ib_1 hw hh c6
    refine lv_iload_n hx hb dX0_four_9 rfl (lv_at hl 3 rfl) ?_
    refine lv_if_lt (tgt := 30) hx hb dX0_four_10 (by decide) (fun c10 => ?_) (fun c10 => ?_)
    · skip
      refine lv_lconst (v := 0) hx hb dX0_four_30 (by decide +kernel) ?_
      exact W.lret hx hb hr (fun t ht hW => ⟨_, rfl, (by unfold cf_fou; first | rw [if_pos c6] | rw [if_neg c6, if_pos c10] | rw [if_neg c6, if_neg c10, if_pos c16] | rw [if_neg c6, if_neg c10, if_neg c16, if_pos c21] | rw [if_neg c6, if_neg c10, if_neg c16, if_neg c21, if_pos (cf_nle c27)]), ht⟩) (fun q h => by cases h) dX0_four_31
    · skip
      refine lv_iload_n hx hb dX0_four_13 rfl (lv_at hl 3 rfl) ?_
      refine lv_bipush (v := nI 8) hx hb dX0_four_14 (by decide +kernel) ?_
      refine lv_icmp_ge (tgt := 30) hx hb dX0_four_16 (by decide) (fun c16 => ?_) (fun c16 => ?_)
      · skip
        refine lv_lconst (v := 0) hx hb dX0_four_30 (by decide +kernel) ?_
        exact W.lret hx hb hr (fun t ht hW => ⟨_, rfl, (by unfold cf_fou; first | rw [if_pos c6] | rw [if_neg c6, if_pos c10] | rw [if_neg c6, if_neg c10, if_pos c16] | rw [if_neg c6, if_neg c10, if_neg c16, if_pos c21] | rw [if_neg c6, if_neg c10, if_neg c16, if_neg c21, if_pos (cf_nle c27)]), ht⟩) (fun q h => by cases h) dX0_four_31
      · skip
        refine lv_iload hx hb dX0_four_19 (lv_at hl 4 rfl) ?_
        refine lv_if_lt (tgt := 30) hx hb dX0_four_21 (by decide) (fun c21 => ?_) (fun c21 => ?_)
        · skip
          refine lv_lconst (v := 0) hx hb dX0_four_30 (by decide +kernel) ?_
          exact W.lret hx hb hr (fun t ht hW => ⟨_, rfl, (by unfold cf_fou; first | rw [if_pos c6] | rw [if_neg c6, if_pos c10] | rw [if_neg c6, if_neg c10, if_pos c16] | rw [if_neg c6, if_neg c10, if_neg c16, if_pos c21] | rw [if_neg c6, if_neg c10, if_neg c16, if_neg c21, if_pos (cf_nle c27)]), ht⟩) (fun q h => by cases h) dX0_four_31
        · skip
          refine lv_iload hx hb dX0_four_24 (lv_at hl 4 rfl) ?_
          refine lv_iconst (v := nI 1) hx hb dX0_four_26 (by decide +kernel) ?_
          refine lv_icmp_le (tgt := 32) hx hb dX0_four_27 (by decide) (fun c27 => ?_) (fun c27 => ?_)
          · skip
            obtain ⟨v0, hv0, ev⟩ := cf_in (by omega) c10 c16
            obtain ⟨t0, ht0, et⟩ := cf_le1 c21 (cf_nlt c27)
            refine lv_iload_n hx hb dX0_four_32 rfl (lv_at hl 1 rfl) ?_
            refine cf_top ebx ?_
            refine lv_iload_n hx hb dX0_four_33 rfl (lv_at hl 2 rfl) ?_
            refine cf_top ebz ?_
            refine vp_callSi (W.runS (As := [.int (nI x), .int (nI z)]) (rest := []) ⟨hx, hb, hml, hown, hts⟩ (kX0_blockStart l x z) (va_cwS 2 hts gX0_four_X0_blockStart rfl rfl rfl (by decide +kernel) ⟨Nat.le_of_ble_eq_true rfl, Nat.le_of_ble_eq_true rfl⟩) ⟨fun a U g mk q => q, fun U hU hW => ⟨rfl, trivial⟩⟩ rfl rfl hl.1 rfl (lv_room (Nat.le_of_ble_eq_true rfl)) dX0_four_34 ⟨Nat.le_of_ble_eq_true rfl, Nat.le_of_ble_eq_true rfl⟩) (fun r34 w34 => ?_)
            subst w34
            refine lv_bipush (v := nI 8) hx hb dX0_four_37 (by decide +kernel) ?_
            refine lv_iload_n hx hb dX0_four_39 rfl (lv_at hl 3 rfl) ?_
            refine cf_top ev ?_
            refine lv_imul hx hb dX0_four_40 ?_
            refine cf_top (pk_mul _ _) ?_
            refine lv_iadd hx hb dX0_four_41 ?_
            refine cf_top (nI_add _ _) ?_
            refine lv_iconst (v := nI 4) hx hb dX0_four_42 (by decide +kernel) ?_
            refine lv_iload hx hb dX0_four_43 (lv_at hl 4 rfl) ?_
            refine cf_top et ?_
            refine lv_imul hx hb dX0_four_45 ?_
            refine cf_top (pk_mul _ _) ?_
            refine lv_iadd hx hb dX0_four_46 ?_
            refine cf_top (nI_add _ _) ?_
            refine lv_istore (lv' := [(5, .int (nI (64 * (8 * z + x) + 8 * v0 + 4 * t0))), (0, .ref h0), (1, .int bx), (2, .int bz), (3, .int v), (4, .int t)]) hx hb dX0_four_47 hl (by decide) rfl (fun ls hl => ?_)
            refine lv_lconst (v := 0) hx hb dX0_four_49 (by decide +kernel) ?_
            refine lv_lstore (lv' := [(6, .long 0), (5, .int (nI (64 * (8 * z + x) + 8 * v0 + 4 * t0))), (0, .ref h0), (1, .int bx), (2, .int bz), (3, .int v), (4, .int t)]) hx hb dX0_four_50 hl (by decide) rfl (fun ls hl => ?_)
            refine lv_iload hx hb dX0_four_52 (lv_at hl 1 rfl) ?_
            refine lv_istore (lv' := [(8, .int (nI (64 * (8 * z + x) + 8 * v0 + 4 * t0))), (6, .long 0), (5, .int (nI (64 * (8 * z + x) + 8 * v0 + 4 * t0))), (0, .ref h0), (1, .int bx), (2, .int bz), (3, .int v), (4, .int t)]) hx hb dX0_four_54 hl (by decide) rfl (fun ls hl => ?_)
            have lp56 : ∀ (n56 : Nat) (k : Nat) (acc : Int64), k ≤ 64 * (8 * z + x) + 8 * v0 + 4 * t0 + 4 → 64 * (8 * z + x) + 8 * v0 + 4 * t0 + 4 < k + n56 → acc = cf_fo (cf_fst f (64 * (8 * z + x) + 8 * v0 + 4 * t0)) (k - (64 * (8 * z + x) + 8 * v0 + 4 * t0)) 0 → 64 * (8 * z + x) + 8 * v0 + 4 * t0 ≤ k → ∀ (ls : Array Slot), lv_has ls 9 [(0, .ref h0), (5, .int (nI (64 * (8 * z + x) + 8 * v0 + 4 * t0))), (6, .long acc), (8, .int (nI k))] → W p l e (headSpec wsX0_four ({ frames := 1, cells := 0, slots := 0, locals := 22 })).room s m ([.ref h0, .int bx, .int bz, .int v, .int t] : List Value).toArray below meth c s.heap [] 0 0 (MQ below (vp_Sl (fun r : Int64 => r = cf_fou w h (cf_V f) bx bz v t)) ([.ref h0, .int bx, .int bz, .int v, .int t] : List Value).toArray s 0 0 (fun _ => False)) (F0 m 56 ls []) := by
              intro n56
              induction n56 with
              | zero => intro k acc h1 h2; exact absurd h2 (by omega)
              | succ n56 ih56 =>
                intro k acc hk56 hn56 hI hk1 ls hl
                refine lv_iload hx hb dX0_four_56 (lv_at hl 3 rfl) ?_
                refine lv_iload hx hb dX0_four_58 (lv_at hl 1 rfl) ?_
                refine lv_iconst (v := nI 4) hx hb dX0_four_60 (by decide +kernel) ?_
                refine lv_iadd hx hb dX0_four_61 ?_
                refine cf_top (nI_add _ _) ?_
                refine lv_icmp_ge (tgt := 90) hx hb dX0_four_62 (by decide) (fun c62 => ?_) (fun c62 => ?_)
                · skip
                  have c62 := (nI_leI (a := 64 * (8 * z + x) + 8 * v0 + 4 * t0 + 4) (b := k) (by omega) (by omega)).mp c62
                  refine lv_lload hx hb dX0_four_90 (lv_at hl 2 rfl) ?_
                  exact W.lret hx hb hr (fun t ht hW => ⟨_, rfl, (by rw [ebx, ebz, ev, et, cf_fou_n hw hh hx_ hz_ hv0 ht0, ← cf_fst_e, hI, show k - (64 * (8 * z + x) + 8 * v0 + 4 * t0) = 4 by omega, Nat.add_assoc]), ht⟩) (fun q h => by cases h) dX0_four_92
                · skip
                  have c62 := mt (nI_leI (a := 64 * (8 * z + x) + 8 * v0 + 4 * t0 + 4) (b := k) (by omega) (by omega)).mpr c62
                  refine lv_lload hx hb dX0_four_65 (lv_at hl 2 rfl) ?_
                  refine lv_bipush (v := nI 16) hx hb dX0_four_67 (by decide +kernel) ?_
                  refine lv_lshl hx hb dX0_four_69 rfl ?_
                  refine lv_aload_n hx hb dX0_four_70 rfl (lv_at hl 0 rfl) ?_
                  refine va_get (D := (dC, dI)) (ci := 0) (v := .ref a1) (C := RX0) (T := TX0) (N := 6) hx hb hts (by decide +kernel) hown hK hP 0 rfl rfl 0 (by decide) (hts (.fieldLink RX0 26 "CoefTurns" "cells" "[I") (by decide +kernel)) (fun _ h9 => h9) rfl dX0_four_71 ?_
                  refine lv_iload hx hb dX0_four_74 (lv_at hl 3 rfl) ?_
                  refine cf_iald (D := (dC, dI)) hx hb hK hP 1 0 rfl rfl (k := k) (by omega) (by decide) dX0_four_76 ?_
                  refine lv_ldc (v := nI 65535) hx hb hown (hts (.constant RX0 97 65535) (by decide +kernel)) dX0_four_77 ?_
                  refine lv_iand hx hb dX0_four_79 ?_
                  refine lv_i2l hx hb dX0_four_80 rfl ?_
                  refine lv_lor hx hb dX0_four_81 ?_
                  refine lv_lstore (lv' := [(6, .long ((acc <<< ((nI 16).toInt64 &&& 63)) ||| (((f k) &&& (nI 65535)).toInt64))), (0, .ref h0), (5, .int (nI (64 * (8 * z + x) + 8 * v0 + 4 * t0))), (8, .int (nI k))]) hx hb dX0_four_82 hl (by decide) rfl (fun ls hl => ?_)
                  refine lv_iinc (v := nI (k + 1)) (lv' := [(8, .int (nI (k + 1))), (6, .long ((acc <<< ((nI 16).toInt64 &&& 63)) ||| (((f k) &&& (nI 65535)).toInt64))), (0, .ref h0), (5, .int (nI (64 * (8 * z + x) + 8 * v0 + 4 * t0)))]) hx hb dX0_four_84 hl (k := 3) rfl (by rw [← nI_add]; rfl) (by decide) rfl (fun ls hl => ?_)
                  refine lv_goto (tgt := 56) hx hb dX0_four_87 (by decide) ?_
                  exact ih56 (k + 1) ((acc <<< ((nI 16).toInt64 &&& 63)) ||| (((f k) &&& (nI 65535)).toInt64)) (by omega) (by omega) (by rw [hI]; exact cf_fo_k (cf_fst f _) hk1 (by unfold cf_fst; rw [show (64 * (8 * z + x) + 8 * v0 + 4 * t0) + (k - (64 * (8 * z + x) + 8 * v0 + 4 * t0)) = k by omega])) (by omega) ls (lv_sub hl [2, 3, 1, 0] rfl)
            exact lp56 (64 * (8 * z + x) + 8 * v0 + 4 * t0 + 4 + 1) (64 * (8 * z + x) + 8 * v0 + 4 * t0) 0 (by omega) (by omega) (by rw [Nat.sub_self]; rfl) (Nat.le_refl _) ls (lv_sub hl [3, 2, 1, 0] rfl)
          · skip
            refine lv_lconst (v := 0) hx hb dX0_four_30 (by decide +kernel) ?_
            exact W.lret hx hb hr (fun t ht hW => ⟨_, rfl, (by unfold cf_fou; first | rw [if_pos c6] | rw [if_neg c6, if_pos c10] | rw [if_neg c6, if_neg c10, if_pos c16] | rw [if_neg c6, if_neg c10, if_neg c16, if_pos c21] | rw [if_neg c6, if_neg c10, if_neg c16, if_neg c21, if_pos (cf_nle c27)]), ht⟩) (fun q h => by cases h) dX0_four_31
set_option maxHeartbeats 4000000 in
set_option maxRecDepth 100000 in
/-- X0_swap -/
theorem kX0_swap (l : Launch) (dC : Nat → ClassId) (dI : Nat → Nat → Nat) (sz : Nat) (h0 a1 a2 : Nat) (cA cB : ClassId) (f g : Nat → Int32) (w h kw kh : Nat) (ax az bx bz : Int32) (hw : w ≤ 8) (hh : h ≤ 8) : Met l yX0_swap wsX0_swap ({ frames := 2, cells := 0, slots := 0, locals := 46 }) (va_Pc [.ref h0, .int ax, .int az, .int bx, .int bz] (fun U => U.heap.size = sz ∧ va_P (dC, dI) vwCm [(h0, .inr (0, [.ref a1, .ref a2, .int (nI w), .int (nI h), .int (nI kw), .int (nI kh)])), (a1, .inl (cA, 4096, .inl f)), (a2, .inl (cB, 4096, .inl g))] U.heap ∧ va_K (dC, dI) vwCm [(cA, .int), (cB, .int)] U ∧ va_D (fun _ => True) [(h0, .inr (0, [.ref a1, .ref a2, .int (nI w), .int (nI h), .int (nI kw), .int (nI kh)])), (a1, .inl (cA, 4096, .inl f)), (a2, .inl (cB, 4096, .inl g))])) (va_Qi (fun (r : Int32) (u : Nat → Int32) => r = cf_swr w h ax az bx bz ∧ cf_Ag w h (cf_V u) (cf_swG w h ax az bx bz (cf_V f))) (fun (u : Nat → Int32) (t : State) => va_P (dC, dI) vwCm [(h0, .inr (0, [.ref a1, .ref a2, .int (nI w), .int (nI h), .int (nI kw), .int (nI kh)])), (a1, .inl (cA, 4096, .inl u)), (a2, .inl (cB, 4096, .inl g))] t.heap ∧ va_K (dC, dI) vwCm [(cA, .int), (cB, .int)] t ∧ va_D (va_A [(h0, .inr (0, [.ref a1, .ref a2, .int (nI w), .int (nI h), .int (nI kw), .int (nI kh)])), (a1, .inl (cA, 4096, .inl f)), (a2, .inl (cB, 4096, .inl g))] sz) [(h0, .inr (0, [.ref a1, .ref a2, .int (nI w), .int (nI h), .int (nI kw), .int (nI kh)])), (a1, .inl (cA, 4096, .inl u)), (a2, .inl (cB, 4096, .inl g))]) (va_A [(h0, .inr (0, [.ref a1, .ref a2, .int (nI w), .int (nI h), .int (nI kw), .int (nI kh)])), (a1, .inl (cA, 4096, .inl f)), (a2, .inl (cB, 4096, .inl g))] sz)) 0 0 (va_A [(h0, .inr (0, [.ref a1, .ref a2, .int (nI w), .int (nI h), .int (nI kw), .int (nI kh)])), (a1, .inl (cA, 4096, .inl f)), (a2, .inl (cB, 4096, .inl g))] sz) := by
  refine Met.ofW (cc := cX0_swap) (maxL := 5) (ret := (some .boolean)) (by decide) rfl ?_
  intro p e s m args below meth c s₁ B hml hv
  obtain ⟨rfl, hsz, hP, hK, hD0⟩ := hv
  have hx := B.exec
  have hb := B.bytes
  have hr := B.returns
  have hts := atoms_spec (ws := wsX0_swap) B.pre
  have hown : s.vm.findClass RX0 = some m.cls := findClass_of_methodNamed B.named
  have hlocks := B.notSynchronized
  subst hsz
  have hD := hD0.self (sz := s.heap.size)
  generalize hAe : va_A [(h0, .inr (0, [.ref a1, .ref a2, .int (nI w), .int (nI h), .int (nI kw), .int (nI kh)])), (a1, .inl (cA, 4096, .inl f)), (a2, .inl (cB, 4096, .inl g))] s.heap.size = A at hD ⊢
  have hA : ∀ q : Nat, s.heap.size ≤ q → A q := fun q h => by rw [← hAe]; exact Or.inr h
  have hS : va_S A s.heap s.heap [] := va_S.rf
  have hP : va_P (dC, dI) vwCm [(h0, .inr (0, [.ref a1, .ref a2, .int (nI w), .int (nI h), .int (nI kw), .int (nI kh)])), (a1, .inl (cA, 4096, .inl f)), (a2, .inl (cB, 4096, .inl g))] s.heap := hP
  have hl := lv_entry ([.ref h0, .int ax, .int az, .int bx, .int bz]) (n := 5) (Nat.le_of_ble_eq_true rfl)
  rw [lg_entry_eq]
  generalize (lg_sl ([.ref h0, .int ax, .int az, .int bx, .int bz]) ++ List.replicate (5 - (lg_sl ([.ref h0, .int ax, .int az, .int bx, .int bz])).length) Slot.unset).toArray = ls at hl ⊢
  have hl : lv_has ls 5 [(0, .ref h0), (1, .int ax), (2, .int az), (3, .int bx), (4, .int bz)] := hl
  refine lv_aload_n hx hb dX0_swap_0 rfl (lv_at hl 0 rfl) ?_
  refine lv_iload_n hx hb dX0_swap_1 rfl (lv_at hl 1 rfl) ?_
  refine lv_iload_n hx hb dX0_swap_2 rfl (lv_at hl 2 rfl) ?_
  have hPc := hP.sub (ws' := [(h0, .inr (0, [.ref a1, .ref a2, .int (nI w), .int (nI h), .int (nI kw), .int (nI kh)])), (a1, .inl (cA, 4096, .inl f)), (a2, .inl (cB, 4096, .inl g))]) [0, 1, 2] rfl
  have hKc := hK.sub (tys' := [(cA, .int), (cB, .int)]) [0, 1] rfl
  refine vp_callSi (W.runV (As := [.int ax, .int az]) (rest := []) ⟨hx, hb, hml, hown, hts⟩ (kX0_isBlock l dC dI h0 a1 a2 cA cB f g w h kw kh ax az) (cwV 2 hts gX0_swap_X0_isBlock rfl rfl rfl (by decide +kernel) ⟨Nat.le_of_ble_eq_true rfl, Nat.le_of_ble_eq_true rfl⟩) ⟨fun a U g mk q => by obtain ⟨q0, qP, qK⟩ := q; exact ⟨q0, qP, va_K.moved (u := U) (U := U.calling g mk a) (Vm.Alike.refl U.vm) qK⟩, va_recv hKc hPc (ci := 0) (q0 := 0) rfl rfl, fun U hU hW => ⟨rfl, by rw [hU]; exact hPc, va_K.moved hW.alike hKc⟩⟩ rfl rfl hl.1 rfl (lv_room (Nat.le_of_ble_eq_true rfl)) dX0_swap_3 ⟨Nat.le_of_ble_eq_true rfl, Nat.le_of_ble_eq_true rfl⟩) (fun r3 w3 => ?_)
  subst w3
  refine lv_if_eq (tgt := 19) hx hb dX0_swap_6 (by decide) (fun c6 => ?_) (fun c6 => ?_)
  · skip
    refine lv_iconst (v := nI 0) hx hb dX0_swap_19 (by decide +kernel) ?_
    have hP9 := hP.sub (ws' := [(h0, .inr (0, [.ref a1, .ref a2, .int (nI w), .int (nI h), .int (nI kw), .int (nI kh)])), (a1, .inl (cA, 4096, .inl f)), (a2, .inl (cB, 4096, .inl g))]) [0, 1, 2] rfl
    have hD9 := hD.sub (ws' := [(h0, .inr (0, [.ref a1, .ref a2, .int (nI w), .int (nI h), .int (nI kw), .int (nI kh)])), (a1, .inl (cA, 4096, .inl f)), (a2, .inl (cB, 4096, .inl g))]) [0, 1, 2] (by decide) rfl
    exact W.zret (ty := .boolean) hx hb hr rfl (fun t ht hW => ⟨⟨_, f, rfl, (by unfold cf_swr cf_swG; first | (rw [if_pos c6, if_pos c6]; exact ⟨rfl, cf_Ag.rf⟩) | (rw [if_neg c6, if_pos c16, if_neg c6, if_pos c16]; exact ⟨rfl, cf_Ag.rf⟩)), by rw [ht]; exact hP9, va_K.moved hW.alike hK, hD9⟩, hS.F ht⟩) hS.2.2 dX0_swap_20
  · skip
    obtain ⟨x, z, hx_, hz_, eax, eaz⟩ := cf_ib_1 hw hh c6
    refine lv_aload_n hx hb dX0_swap_9 rfl (lv_at hl 0 rfl) ?_
    refine lv_iload_n hx hb dX0_swap_10 rfl (lv_at hl 3 rfl) ?_
    refine lv_iload hx hb dX0_swap_11 (lv_at hl 4 rfl) ?_
    have hPc := hP.sub (ws' := [(h0, .inr (0, [.ref a1, .ref a2, .int (nI w), .int (nI h), .int (nI kw), .int (nI kh)])), (a1, .inl (cA, 4096, .inl f)), (a2, .inl (cB, 4096, .inl g))]) [0, 1, 2] rfl
    have hKc := hK.sub (tys' := [(cA, .int), (cB, .int)]) [0, 1] rfl
    refine vp_callSi (W.runV (As := [.int bx, .int bz]) (rest := []) ⟨hx, hb, hml, hown, hts⟩ (kX0_isBlock l dC dI h0 a1 a2 cA cB f g w h kw kh bx bz) (cwV 2 hts gX0_swap_X0_isBlock rfl rfl rfl (by decide +kernel) ⟨Nat.le_of_ble_eq_true rfl, Nat.le_of_ble_eq_true rfl⟩) ⟨fun a U g mk q => by obtain ⟨q0, qP, qK⟩ := q; exact ⟨q0, qP, va_K.moved (u := U) (U := U.calling g mk a) (Vm.Alike.refl U.vm) qK⟩, va_recv hKc hPc (ci := 0) (q0 := 0) rfl rfl, fun U hU hW => ⟨rfl, by rw [hU]; exact hPc, va_K.moved hW.alike hKc⟩⟩ rfl rfl hl.1 rfl (lv_room (Nat.le_of_ble_eq_true rfl)) dX0_swap_13 ⟨Nat.le_of_ble_eq_true rfl, Nat.le_of_ble_eq_true rfl⟩) (fun r13 w13 => ?_)
    subst w13
    refine lv_if_ne (tgt := 21) hx hb dX0_swap_16 (by decide) (fun c16 => ?_) (fun c16 => ?_)
    · skip
      obtain ⟨x2, z2, hx2_, hz2_, ebx, ebz⟩ := cf_ib_1 hw hh c16
      refine lv_aload_n hx hb dX0_swap_21 rfl (lv_at hl 0 rfl) ?_
      refine lv_iload_n hx hb dX0_swap_22 rfl (lv_at hl 1 rfl) ?_
      refine cf_top eax ?_
      refine lv_iload_n hx hb dX0_swap_23 rfl (lv_at hl 2 rfl) ?_
      refine cf_top eaz ?_
      refine vp_callSi (W.runS (As := [.int (nI x), .int (nI z)]) (rest := [.ref h0]) ⟨hx, hb, hml, hown, hts⟩ (kX0_blockStart l x z) (va_cwS 2 hts gX0_swap_X0_blockStart rfl rfl rfl (by decide +kernel) ⟨Nat.le_of_ble_eq_true rfl, Nat.le_of_ble_eq_true rfl⟩) ⟨fun a U g mk q => q, fun U hU hW => ⟨rfl, trivial⟩⟩ rfl rfl hl.1 rfl (lv_room (Nat.le_of_ble_eq_true rfl)) dX0_swap_24 ⟨Nat.le_of_ble_eq_true rfl, Nat.le_of_ble_eq_true rfl⟩) (fun r24 w24 => ?_)
      subst w24
      refine lv_iload_n hx hb dX0_swap_27 rfl (lv_at hl 3 rfl) ?_
      refine cf_top ebx ?_
      refine lv_iload hx hb dX0_swap_28 (lv_at hl 4 rfl) ?_
      refine cf_top ebz ?_
      refine vp_callSi (W.runS (As := [.int (nI x2), .int (nI z2)]) (rest := [.int (nI (64 * (8 * z + x))), .ref h0]) ⟨hx, hb, hml, hown, hts⟩ (kX0_blockStart l x2 z2) (va_cwS 2 hts gX0_swap_X0_blockStart rfl rfl rfl (by decide +kernel) ⟨Nat.le_of_ble_eq_true rfl, Nat.le_of_ble_eq_true rfl⟩) ⟨fun a U g mk q => q, fun U hU hW => ⟨rfl, trivial⟩⟩ rfl rfl hl.1 rfl (lv_room (Nat.le_of_ble_eq_true rfl)) dX0_swap_30 ⟨Nat.le_of_ble_eq_true rfl, Nat.le_of_ble_eq_true rfl⟩) (fun r30 w30 => ?_)
      subst w30
      have hPc := hP.sub (ws' := [(h0, .inr (0, [.ref a1, .ref a2, .int (nI w), .int (nI h), .int (nI kw), .int (nI kh)])), (a1, .inl (cA, 4096, .inl f)), (a2, .inl (cB, 4096, .inl g))]) [0, 1, 2] rfl
      have hKc := hK.sub (tys' := [(cA, .int), (cB, .int)]) [0, 1] rfl
      have hDc := hD.sub (ws' := [(h0, .inr (0, [.ref a1, .ref a2, .int (nI w), .int (nI h), .int (nI kw), .int (nI kh)])), (a1, .inl (cA, 4096, .inl f)), (a2, .inl (cB, 4096, .inl g))]) [0, 1, 2] (by decide) rfl
      have hFc := va_free (wc := [(h0, .inr (0, [.ref a1, .ref a2, .int (nI w), .int (nI h), .int (nI kw), .int (nI kh)])), (a1, .inl (cA, 4096, .inl f)), (a2, .inl (cB, 4096, .inl g))]) hD hS hA [0, 1, 2] rfl
      refine va_callv (va_runV (As := [.int (nI (64 * (8 * z + x))), .int (nI (64 * (8 * z2 + x2)))]) (rest := []) ⟨hx, hb, hml, hown, hts⟩ (kX0_exchangeBlocks l dC dI s.heap.size h0 a1 a2 cA cB f g w h kw kh (8 * z + x) (8 * z2 + x2) (by omega) (by omega)) (cwV 2 hts gX0_swap_X0_exchangeBlocks rfl rfl rfl (by decide +kernel) ⟨Nat.le_of_ble_eq_true rfl, Nat.le_of_ble_eq_true rfl⟩) ⟨fun a U g mk q => by obtain ⟨q0, q1, qP, qK, qD⟩ := q; exact ⟨q0, q1, qP, va_K.moved (u := U) (U := U.calling g mk a) (Vm.Alike.refl U.vm) qK, qD⟩, va_recv hKc hPc (ci := 0) (q0 := 0) rfl rfl, fun U hU hW => ⟨rfl, by rw [hU], by rw [hU]; exact hPc, va_K.moved hW.alike hKc, hDc.weaken (fun _ _ _ _ => trivial)⟩⟩ rfl rfl hl.1 rfl (lv_room (Nat.le_of_ble_eq_true rfl)) dX0_swap_33 ⟨Nat.le_of_ble_eq_true rfl, Nat.le_of_ble_eq_true rfl⟩) hS (fun q _ h => hFc q h) hFc (fun u33 t H1 locs ht hvm w33 hB hz1 hk1 hS => ?_)
      obtain ⟨hP1, -, hD1⟩ := hB
      rw [ht] at hP1
      try dsimp only at w33
      obtain ⟨hP, hD⟩ := va_join (wr := []) (w1 := [(h0, .inr (0, [.ref a1, .ref a2, .int (nI w), .int (nI h), .int (nI kw), .int (nI kh)])), (a1, .inl (cA, 4096, .inl u33)), (a2, .inl (cB, 4096, .inl g))]) hP hD [0, 1, 2] [] rfl rfl (by decide) (by decide) hk1 hFc hP1 hD1
      generalize H1 = H at hP hS ⊢
      have hP : va_P (dC, dI) vwCm [(h0, .inr (0, [.ref a1, .ref a2, .int (nI w), .int (nI h), .int (nI kw), .int (nI kh)])), (a1, .inl (cA, 4096, .inl u33)), (a2, .inl (cB, 4096, .inl g))] H := hP
      have hD : va_D A [(h0, .inr (0, [.ref a1, .ref a2, .int (nI w), .int (nI h), .int (nI kw), .int (nI kh)])), (a1, .inl (cA, 4096, .inl u33)), (a2, .inl (cB, 4096, .inl g))] := hD
      refine lv_iconst (v := nI 1) hx hb dX0_swap_36 (by decide +kernel) ?_
      have hP9 := hP.sub (ws' := [(h0, .inr (0, [.ref a1, .ref a2, .int (nI w), .int (nI h), .int (nI kw), .int (nI kh)])), (a1, .inl (cA, 4096, .inl u33)), (a2, .inl (cB, 4096, .inl g))]) [0, 1, 2] rfl
      have hD9 := hD.sub (ws' := [(h0, .inr (0, [.ref a1, .ref a2, .int (nI w), .int (nI h), .int (nI kw), .int (nI kh)])), (a1, .inl (cA, 4096, .inl u33)), (a2, .inl (cB, 4096, .inl g))]) [0, 1, 2] (by decide) rfl
      exact W.zret (ty := .boolean) hx hb hr rfl (fun t ht hW => ⟨⟨_, u33, rfl, (by rw [eax, eaz, ebx, ebz, cf_swr_n hw hh hx_ hz_ hx2_ hz2_, cf_swG_n hw hh hx_ hz_ hx2_ hz2_]; exact ⟨rfl, cf_xB_sx w33 hw hx_ hx2_⟩), by rw [ht]; exact hP9, va_K.moved hW.alike hK, hD9⟩, hS.F ht⟩) hS.2.2 dX0_swap_37
    · skip
      refine lv_iconst (v := nI 0) hx hb dX0_swap_19 (by decide +kernel) ?_
      have hP9 := hP.sub (ws' := [(h0, .inr (0, [.ref a1, .ref a2, .int (nI w), .int (nI h), .int (nI kw), .int (nI kh)])), (a1, .inl (cA, 4096, .inl f)), (a2, .inl (cB, 4096, .inl g))]) [0, 1, 2] rfl
      have hD9 := hD.sub (ws' := [(h0, .inr (0, [.ref a1, .ref a2, .int (nI w), .int (nI h), .int (nI kw), .int (nI kh)])), (a1, .inl (cA, 4096, .inl f)), (a2, .inl (cB, 4096, .inl g))]) [0, 1, 2] (by decide) rfl
      exact W.zret (ty := .boolean) hx hb hr rfl (fun t ht hW => ⟨⟨_, f, rfl, (by unfold cf_swr cf_swG; first | (rw [if_pos c6, if_pos c6]; exact ⟨rfl, cf_Ag.rf⟩) | (rw [if_neg c6, if_pos c16, if_neg c6, if_pos c16]; exact ⟨rfl, cf_Ag.rf⟩)), by rw [ht]; exact hP9, va_K.moved hW.alike hK, hD9⟩, hS.F ht⟩) hS.2.2 dX0_swap_20
set_option maxHeartbeats 4000000 in
set_option maxRecDepth 100000 in
/-- X0_turn -/
theorem kX0_turn (l : Launch) (dC : Nat → ClassId) (dI : Nat → Nat → Nat) (sz : Nat) (h0 a1 a2 : Nat) (cA cB : ClassId) (f g : Nat → Int32) (w h kw kh : Nat) (q : Int32) (hw : w ≤ 8) (hh : h ≤ 8) (hw1 : 1 ≤ w) (hh1 : 1 ≤ h) : Met l yX0_turn wsX0_turn ({ frames := 4, cells := 0, slots := 0, locals := 92 }) (va_Pc [.ref h0, .int q] (fun U => U.heap.size = sz ∧ va_P (dC, dI) vwCm [(h0, .inr (0, [.ref a1, .ref a2, .int (nI w), .int (nI h), .int (nI kw), .int (nI kh)])), (a1, .inl (cA, 4096, .inl f)), (a2, .inl (cB, 4096, .inl g))] U.heap ∧ va_K (dC, dI) vwCm [(cA, .int), (cB, .int)] U ∧ va_D (fun _ => True) [(h0, .inr (0, [.ref a1, .ref a2, .int (nI w), .int (nI h), .int (nI kw), .int (nI kh)])), (a1, .inl (cA, 4096, .inl f)), (a2, .inl (cB, 4096, .inl g))])) (va_Qv (fun u : (Nat → Int32) × Nat × Nat => u.2.1 = (if cf_qn q % 2 = 1 then h else w) ∧ u.2.2 = (if cf_qn q % 2 = 1 then w else h) ∧ cf_Ag u.2.1 u.2.2 (cf_V u.1) (cf_tu (cf_qn q) w h (cf_V f))) (fun (u : (Nat → Int32) × Nat × Nat) (t : State) => va_P (dC, dI) vwCm [(h0, .inr (0, [.ref a1, .ref a2, .int (nI u.2.1), .int (nI u.2.2), .int (nI kw), .int (nI kh)])), (a1, .inl (cA, 4096, .inl u.1)), (a2, .inl (cB, 4096, .inl g))] t.heap ∧ va_K (dC, dI) vwCm [(cA, .int), (cB, .int)] t ∧ va_D (va_A [(h0, .inr (0, [.ref a1, .ref a2, .int (nI w), .int (nI h), .int (nI kw), .int (nI kh)])), (a1, .inl (cA, 4096, .inl f)), (a2, .inl (cB, 4096, .inl g))] sz) [(h0, .inr (0, [.ref a1, .ref a2, .int (nI u.2.1), .int (nI u.2.2), .int (nI kw), .int (nI kh)])), (a1, .inl (cA, 4096, .inl u.1)), (a2, .inl (cB, 4096, .inl g))]) (va_A [(h0, .inr (0, [.ref a1, .ref a2, .int (nI w), .int (nI h), .int (nI kw), .int (nI kh)])), (a1, .inl (cA, 4096, .inl f)), (a2, .inl (cB, 4096, .inl g))] sz)) 0 0 (va_A [(h0, .inr (0, [.ref a1, .ref a2, .int (nI w), .int (nI h), .int (nI kw), .int (nI kh)])), (a1, .inl (cA, 4096, .inl f)), (a2, .inl (cB, 4096, .inl g))] sz) := by
  refine Met.ofW (cc := cX0_turn) (maxL := 2) (ret := none) (by decide) rfl ?_
  intro p e s m args below meth c s₁ B hml hv
  obtain ⟨rfl, hsz, hP, hK, hD0⟩ := hv
  have hx := B.exec
  have hb := B.bytes
  have hr := B.returns
  have hts := atoms_spec (ws := wsX0_turn) B.pre
  have hown : s.vm.findClass RX0 = some m.cls := findClass_of_methodNamed B.named
  have hlocks := B.notSynchronized
  subst hsz
  have hD := hD0.self (sz := s.heap.size)
  generalize hAe : va_A [(h0, .inr (0, [.ref a1, .ref a2, .int (nI w), .int (nI h), .int (nI kw), .int (nI kh)])), (a1, .inl (cA, 4096, .inl f)), (a2, .inl (cB, 4096, .inl g))] s.heap.size = A at hD ⊢
  have hA : ∀ q : Nat, s.heap.size ≤ q → A q := fun q h => by rw [← hAe]; exact Or.inr h
  have hS : va_S A s.heap s.heap [] := va_S.rf
  have hP : va_P (dC, dI) vwCm [(h0, .inr (0, [.ref a1, .ref a2, .int (nI w), .int (nI h), .int (nI kw), .int (nI kh)])), (a1, .inl (cA, 4096, .inl f)), (a2, .inl (cB, 4096, .inl g))] s.heap := hP
  have hl := lv_entry ([.ref h0, .int q]) (n := 2) (Nat.le_of_ble_eq_true rfl)
  rw [lg_entry_eq]
  generalize (lg_sl ([.ref h0, .int q]) ++ List.replicate (2 - (lg_sl ([.ref h0, .int q])).length) Slot.unset).toArray = ls at hl ⊢
  have hl : lv_has ls 2 [(0, .ref h0), (1, .int q)] := hl
  have hq4 := (cf_qn_c q).2
  refine lv_iload_n hx hb dX0_turn_0 rfl (lv_at hl 1 rfl) ?_
  refine lv_iconst (v := nI 4) hx hb dX0_turn_1 (by decide +kernel) ?_
  refine vp_callSi (W.runS (As := [.int q, .int (nI 4)]) (rest := []) ⟨hx, hb, hml, hown, hts⟩ (kJ9_floorMod_7cf53 l q) (va_cwS 2 hts gX0_turn_J9_floorMod_7cf53 rfl rfl rfl (by decide +kernel) ⟨Nat.le_of_ble_eq_true rfl, Nat.le_of_ble_eq_true rfl⟩) ⟨fun a U g mk q => q, fun U hU hW => ⟨rfl, trivial⟩⟩ rfl rfl hl.1 rfl (lv_room (Nat.le_of_ble_eq_true rfl)) dX0_turn_2 ⟨Nat.le_of_ble_eq_true rfl, Nat.le_of_ble_eq_true rfl⟩) (fun r2 w2 => ?_)
  subst w2
  rcases (show cf_qn q = 0 ∨ cf_qn q = 1 ∨ cf_qn q = 2 ∨ cf_qn q = 3 by omega) with e | e | e | e
  · skip
    refine cf_top (congrArg nI e) ?_
    refine lv_tableOut (tgt := 65) hx hb dX0_turn_5 (by decide +kernel) (by decide) ?_
    have hP9 := hP.sub (ws' := [(h0, .inr (0, [.ref a1, .ref a2, .int (nI w), .int (nI h), .int (nI kw), .int (nI kh)])), (a1, .inl (cA, 4096, .inl f)), (a2, .inl (cB, 4096, .inl g))]) [0, 1, 2] rfl
    have hD9 := hD.sub (ws' := [(h0, .inr (0, [.ref a1, .ref a2, .int (nI w), .int (nI h), .int (nI kw), .int (nI kh)])), (a1, .inl (cA, 4096, .inl f)), (a2, .inl (cB, 4096, .inl g))]) [0, 1, 2] (by decide) rfl
    exact W.vret hx hb hr (fun t ht hW => ⟨⟨(f, w, h), rfl, (by rw [e]; exact ⟨rfl, rfl, cf_Ag.rf⟩), by rw [ht]; exact hP9, va_K.moved hW.alike hK, hD9⟩, hS.F ht⟩) hS.2.2 dX0_turn_65
  · skip
    refine cf_top (congrArg nI e) ?_
    refine lv_tableIn (off := 27) (tgt := 32) hx hb dX0_turn_5 (by decide +kernel) (by decide +kernel) (by decide +kernel) (by decide) ?_
    refine lv_aload_n hx hb dX0_turn_32 rfl (lv_at hl 0 rfl) ?_
    have hPc := hP.sub (ws' := [(h0, .inr (0, [.ref a1, .ref a2, .int (nI w), .int (nI h), .int (nI kw), .int (nI kh)])), (a1, .inl (cA, 4096, .inl f)), (a2, .inl (cB, 4096, .inl g))]) [0, 1, 2] rfl
    have hKc := hK.sub (tys' := [(cA, .int), (cB, .int)]) [0, 1] rfl
    have hDc := hD.sub (ws' := [(h0, .inr (0, [.ref a1, .ref a2, .int (nI w), .int (nI h), .int (nI kw), .int (nI kh)])), (a1, .inl (cA, 4096, .inl f)), (a2, .inl (cB, 4096, .inl g))]) [0, 1, 2] (by decide) rfl
    have hFc := va_free (wc := [(h0, .inr (0, [.ref a1, .ref a2, .int (nI w), .int (nI h), .int (nI kw), .int (nI kh)])), (a1, .inl (cA, 4096, .inl f)), (a2, .inl (cB, 4096, .inl g))]) hD hS hA [0, 1, 2] rfl
    refine va_callv (va_runV (As := []) (rest := []) ⟨hx, hb, hml, hown, hts⟩ (kX0_transpose l dC dI s.heap.size h0 a1 a2 cA cB f g w h kw kh (by omega) (by omega) (by omega) (by omega)) (cwV 0 hts gX0_turn_X0_transpose rfl rfl rfl (by decide +kernel) ⟨Nat.le_of_ble_eq_true rfl, Nat.le_of_ble_eq_true rfl⟩) ⟨fun a U g mk q => by obtain ⟨q0, q1, qP, qK, qD⟩ := q; exact ⟨q0, q1, qP, va_K.moved (u := U) (U := U.calling g mk a) (Vm.Alike.refl U.vm) qK, qD⟩, va_recv hKc hPc (ci := 0) (q0 := 0) rfl rfl, fun U hU hW => ⟨rfl, by rw [hU], by rw [hU]; exact hPc, va_K.moved hW.alike hKc, hDc.weaken (fun _ _ _ _ => trivial)⟩⟩ rfl rfl hl.1 rfl (lv_room (Nat.le_of_ble_eq_true rfl)) dX0_turn_33 ⟨Nat.le_of_ble_eq_true rfl, Nat.le_of_ble_eq_true rfl⟩) hS (fun q _ h => hFc q h) hFc (fun u33 t H1 locs ht hvm w33 hB hz1 hk1 hS => ?_)
    obtain ⟨hP1, -, hD1⟩ := hB
    rw [ht] at hP1
    try dsimp only at w33
    obtain ⟨hP, hD⟩ := va_join (wr := []) (w1 := [(h0, .inr (0, [.ref a1, .ref a2, .int (nI h), .int (nI w), .int (nI kw), .int (nI kh)])), (a1, .inl (cA, 4096, .inl u33)), (a2, .inl (cB, 4096, .inl g))]) hP hD [0, 1, 2] [] rfl rfl (by decide) (by decide) hk1 hFc hP1 hD1
    generalize H1 = H at hP hS ⊢
    have hP : va_P (dC, dI) vwCm [(h0, .inr (0, [.ref a1, .ref a2, .int (nI h), .int (nI w), .int (nI kw), .int (nI kh)])), (a1, .inl (cA, 4096, .inl u33)), (a2, .inl (cB, 4096, .inl g))] H := hP
    have hD : va_D A [(h0, .inr (0, [.ref a1, .ref a2, .int (nI h), .int (nI w), .int (nI kw), .int (nI kh)])), (a1, .inl (cA, 4096, .inl u33)), (a2, .inl (cB, 4096, .inl g))] := hD
    refine lv_aload_n hx hb dX0_turn_36 rfl (lv_at hl 0 rfl) ?_
    have hPc := hP.sub (ws' := [(h0, .inr (0, [.ref a1, .ref a2, .int (nI h), .int (nI w), .int (nI kw), .int (nI kh)])), (a1, .inl (cA, 4096, .inl u33)), (a2, .inl (cB, 4096, .inl g))]) [0, 1, 2] rfl
    have hKc := hK.sub (tys' := [(cA, .int), (cB, .int)]) [0, 1] rfl
    have hDc := hD.sub (ws' := [(h0, .inr (0, [.ref a1, .ref a2, .int (nI h), .int (nI w), .int (nI kw), .int (nI kh)])), (a1, .inl (cA, 4096, .inl u33)), (a2, .inl (cB, 4096, .inl g))]) [0, 1, 2] (by decide) rfl
    have hFc := va_free (wc := [(h0, .inr (0, [.ref a1, .ref a2, .int (nI h), .int (nI w), .int (nI kw), .int (nI kh)])), (a1, .inl (cA, 4096, .inl u33)), (a2, .inl (cB, 4096, .inl g))]) hD hS hA [0, 1, 2] rfl
    refine va_callv (va_runV (As := []) (rest := []) ⟨hx, hb, hml, hown, hts⟩ (kX0_mirror l dC dI H.size h0 a1 a2 cA cB u33 g h w kw kh (by omega) (by omega) (by omega) (by omega)) (cwV 0 hts gX0_turn_X0_mirror rfl rfl rfl (by decide +kernel) ⟨Nat.le_of_ble_eq_true rfl, Nat.le_of_ble_eq_true rfl⟩) ⟨fun a U g mk q => by obtain ⟨q0, q1, qP, qK, qD⟩ := q; exact ⟨q0, q1, qP, va_K.moved (u := U) (U := U.calling g mk a) (Vm.Alike.refl U.vm) qK, qD⟩, va_recv hKc hPc (ci := 0) (q0 := 0) rfl rfl, fun U hU hW => ⟨rfl, by rw [hU], by rw [hU]; exact hPc, va_K.moved hW.alike hKc, hDc.weaken (fun _ _ _ _ => trivial)⟩⟩ rfl rfl hl.1 rfl (lv_room (Nat.le_of_ble_eq_true rfl)) dX0_turn_37 ⟨Nat.le_of_ble_eq_true rfl, Nat.le_of_ble_eq_true rfl⟩) hS (fun q _ h => hFc q h) hFc (fun u37 t H1 locs ht hvm w37 hB hz1 hk1 hS => ?_)
    obtain ⟨hP1, -, hD1⟩ := hB
    rw [ht] at hP1
    try dsimp only at w37
    obtain ⟨hP, hD⟩ := va_join (wr := []) (w1 := [(h0, .inr (0, [.ref a1, .ref a2, .int (nI h), .int (nI w), .int (nI kw), .int (nI kh)])), (a1, .inl (cA, 4096, .inl u37)), (a2, .inl (cB, 4096, .inl g))]) hP hD [0, 1, 2] [] rfl rfl (by decide) (by decide) hk1 hFc hP1 hD1
    generalize H1 = H at hP hS ⊢
    have hP : va_P (dC, dI) vwCm [(h0, .inr (0, [.ref a1, .ref a2, .int (nI h), .int (nI w), .int (nI kw), .int (nI kh)])), (a1, .inl (cA, 4096, .inl u37)), (a2, .inl (cB, 4096, .inl g))] H := hP
    have hD : va_D A [(h0, .inr (0, [.ref a1, .ref a2, .int (nI h), .int (nI w), .int (nI kw), .int (nI kh)])), (a1, .inl (cA, 4096, .inl u37)), (a2, .inl (cB, 4096, .inl g))] := hD
    refine lv_goto (tgt := 65) hx hb dX0_turn_40 (by decide) ?_
    have hP9 := hP.sub (ws' := [(h0, .inr (0, [.ref a1, .ref a2, .int (nI h), .int (nI w), .int (nI kw), .int (nI kh)])), (a1, .inl (cA, 4096, .inl u37)), (a2, .inl (cB, 4096, .inl g))]) [0, 1, 2] rfl
    have hD9 := hD.sub (ws' := [(h0, .inr (0, [.ref a1, .ref a2, .int (nI h), .int (nI w), .int (nI kw), .int (nI kh)])), (a1, .inl (cA, 4096, .inl u37)), (a2, .inl (cB, 4096, .inl g))]) [0, 1, 2] (by decide) rfl
    exact W.vret hx hb hr (fun t ht hW => ⟨⟨(u37, h, w), rfl, (by rw [e]; exact ⟨rfl, rfl, w37.tr (cf_mi_ag w33)⟩), by rw [ht]; exact hP9, va_K.moved hW.alike hK, hD9⟩, hS.F ht⟩) hS.2.2 dX0_turn_65
  · skip
    refine cf_top (congrArg nI e) ?_
    refine lv_tableIn (off := 38) (tgt := 43) hx hb dX0_turn_5 (by decide +kernel) (by decide +kernel) (by decide +kernel) (by decide) ?_
    refine lv_aload_n hx hb dX0_turn_43 rfl (lv_at hl 0 rfl) ?_
    have hPc := hP.sub (ws' := [(h0, .inr (0, [.ref a1, .ref a2, .int (nI w), .int (nI h), .int (nI kw), .int (nI kh)])), (a1, .inl (cA, 4096, .inl f)), (a2, .inl (cB, 4096, .inl g))]) [0, 1, 2] rfl
    have hKc := hK.sub (tys' := [(cA, .int), (cB, .int)]) [0, 1] rfl
    have hDc := hD.sub (ws' := [(h0, .inr (0, [.ref a1, .ref a2, .int (nI w), .int (nI h), .int (nI kw), .int (nI kh)])), (a1, .inl (cA, 4096, .inl f)), (a2, .inl (cB, 4096, .inl g))]) [0, 1, 2] (by decide) rfl
    have hFc := va_free (wc := [(h0, .inr (0, [.ref a1, .ref a2, .int (nI w), .int (nI h), .int (nI kw), .int (nI kh)])), (a1, .inl (cA, 4096, .inl f)), (a2, .inl (cB, 4096, .inl g))]) hD hS hA [0, 1, 2] rfl
    refine va_callv (va_runV (As := []) (rest := []) ⟨hx, hb, hml, hown, hts⟩ (kX0_mirror l dC dI s.heap.size h0 a1 a2 cA cB f g w h kw kh (by omega) (by omega) (by omega) (by omega)) (cwV 0 hts gX0_turn_X0_mirror rfl rfl rfl (by decide +kernel) ⟨Nat.le_of_ble_eq_true rfl, Nat.le_of_ble_eq_true rfl⟩) ⟨fun a U g mk q => by obtain ⟨q0, q1, qP, qK, qD⟩ := q; exact ⟨q0, q1, qP, va_K.moved (u := U) (U := U.calling g mk a) (Vm.Alike.refl U.vm) qK, qD⟩, va_recv hKc hPc (ci := 0) (q0 := 0) rfl rfl, fun U hU hW => ⟨rfl, by rw [hU], by rw [hU]; exact hPc, va_K.moved hW.alike hKc, hDc.weaken (fun _ _ _ _ => trivial)⟩⟩ rfl rfl hl.1 rfl (lv_room (Nat.le_of_ble_eq_true rfl)) dX0_turn_44 ⟨Nat.le_of_ble_eq_true rfl, Nat.le_of_ble_eq_true rfl⟩) hS (fun q _ h => hFc q h) hFc (fun u44 t H1 locs ht hvm w44 hB hz1 hk1 hS => ?_)
    obtain ⟨hP1, -, hD1⟩ := hB
    rw [ht] at hP1
    try dsimp only at w44
    obtain ⟨hP, hD⟩ := va_join (wr := []) (w1 := [(h0, .inr (0, [.ref a1, .ref a2, .int (nI w), .int (nI h), .int (nI kw), .int (nI kh)])), (a1, .inl (cA, 4096, .inl u44)), (a2, .inl (cB, 4096, .inl g))]) hP hD [0, 1, 2] [] rfl rfl (by decide) (by decide) hk1 hFc hP1 hD1
    generalize H1 = H at hP hS ⊢
    have hP : va_P (dC, dI) vwCm [(h0, .inr (0, [.ref a1, .ref a2, .int (nI w), .int (nI h), .int (nI kw), .int (nI kh)])), (a1, .inl (cA, 4096, .inl u44)), (a2, .inl (cB, 4096, .inl g))] H := hP
    have hD : va_D A [(h0, .inr (0, [.ref a1, .ref a2, .int (nI w), .int (nI h), .int (nI kw), .int (nI kh)])), (a1, .inl (cA, 4096, .inl u44)), (a2, .inl (cB, 4096, .inl g))] := hD
    refine lv_aload_n hx hb dX0_turn_47 rfl (lv_at hl 0 rfl) ?_
    have hPc := hP.sub (ws' := [(h0, .inr (0, [.ref a1, .ref a2, .int (nI w), .int (nI h), .int (nI kw), .int (nI kh)])), (a1, .inl (cA, 4096, .inl u44)), (a2, .inl (cB, 4096, .inl g))]) [0, 1, 2] rfl
    have hKc := hK.sub (tys' := [(cA, .int), (cB, .int)]) [0, 1] rfl
    have hDc := hD.sub (ws' := [(h0, .inr (0, [.ref a1, .ref a2, .int (nI w), .int (nI h), .int (nI kw), .int (nI kh)])), (a1, .inl (cA, 4096, .inl u44)), (a2, .inl (cB, 4096, .inl g))]) [0, 1, 2] (by decide) rfl
    have hFc := va_free (wc := [(h0, .inr (0, [.ref a1, .ref a2, .int (nI w), .int (nI h), .int (nI kw), .int (nI kh)])), (a1, .inl (cA, 4096, .inl u44)), (a2, .inl (cB, 4096, .inl g))]) hD hS hA [0, 1, 2] rfl
    refine va_callv (va_runV (As := []) (rest := []) ⟨hx, hb, hml, hown, hts⟩ (kX0_flip l dC dI H.size h0 a1 a2 cA cB u44 g w h kw kh (by omega) (by omega) (by omega) (by omega)) (cwV 0 hts gX0_turn_X0_flip rfl rfl rfl (by decide +kernel) ⟨Nat.le_of_ble_eq_true rfl, Nat.le_of_ble_eq_true rfl⟩) ⟨fun a U g mk q => by obtain ⟨q0, q1, qP, qK, qD⟩ := q; exact ⟨q0, q1, qP, va_K.moved (u := U) (U := U.calling g mk a) (Vm.Alike.refl U.vm) qK, qD⟩, va_recv hKc hPc (ci := 0) (q0 := 0) rfl rfl, fun U hU hW => ⟨rfl, by rw [hU], by rw [hU]; exact hPc, va_K.moved hW.alike hKc, hDc.weaken (fun _ _ _ _ => trivial)⟩⟩ rfl rfl hl.1 rfl (lv_room (Nat.le_of_ble_eq_true rfl)) dX0_turn_48 ⟨Nat.le_of_ble_eq_true rfl, Nat.le_of_ble_eq_true rfl⟩) hS (fun q _ h => hFc q h) hFc (fun u48 t H1 locs ht hvm w48 hB hz1 hk1 hS => ?_)
    obtain ⟨hP1, -, hD1⟩ := hB
    rw [ht] at hP1
    try dsimp only at w48
    obtain ⟨hP, hD⟩ := va_join (wr := []) (w1 := [(h0, .inr (0, [.ref a1, .ref a2, .int (nI w), .int (nI h), .int (nI kw), .int (nI kh)])), (a1, .inl (cA, 4096, .inl u48)), (a2, .inl (cB, 4096, .inl g))]) hP hD [0, 1, 2] [] rfl rfl (by decide) (by decide) hk1 hFc hP1 hD1
    generalize H1 = H at hP hS ⊢
    have hP : va_P (dC, dI) vwCm [(h0, .inr (0, [.ref a1, .ref a2, .int (nI w), .int (nI h), .int (nI kw), .int (nI kh)])), (a1, .inl (cA, 4096, .inl u48)), (a2, .inl (cB, 4096, .inl g))] H := hP
    have hD : va_D A [(h0, .inr (0, [.ref a1, .ref a2, .int (nI w), .int (nI h), .int (nI kw), .int (nI kh)])), (a1, .inl (cA, 4096, .inl u48)), (a2, .inl (cB, 4096, .inl g))] := hD
    refine lv_goto (tgt := 65) hx hb dX0_turn_51 (by decide) ?_
    have hP9 := hP.sub (ws' := [(h0, .inr (0, [.ref a1, .ref a2, .int (nI w), .int (nI h), .int (nI kw), .int (nI kh)])), (a1, .inl (cA, 4096, .inl u48)), (a2, .inl (cB, 4096, .inl g))]) [0, 1, 2] rfl
    have hD9 := hD.sub (ws' := [(h0, .inr (0, [.ref a1, .ref a2, .int (nI w), .int (nI h), .int (nI kw), .int (nI kh)])), (a1, .inl (cA, 4096, .inl u48)), (a2, .inl (cB, 4096, .inl g))]) [0, 1, 2] (by decide) rfl
    exact W.vret hx hb hr (fun t ht hW => ⟨⟨(u48, w, h), rfl, (by rw [e]; exact ⟨rfl, rfl, w48.tr ((cf_fl_ag w44).tr (cf_tu2 _))⟩), by rw [ht]; exact hP9, va_K.moved hW.alike hK, hD9⟩, hS.F ht⟩) hS.2.2 dX0_turn_65
  · skip
    refine cf_top (congrArg nI e) ?_
    refine lv_tableIn (off := 49) (tgt := 54) hx hb dX0_turn_5 (by decide +kernel) (by decide +kernel) (by decide +kernel) (by decide) ?_
    refine lv_aload_n hx hb dX0_turn_54 rfl (lv_at hl 0 rfl) ?_
    have hPc := hP.sub (ws' := [(h0, .inr (0, [.ref a1, .ref a2, .int (nI w), .int (nI h), .int (nI kw), .int (nI kh)])), (a1, .inl (cA, 4096, .inl f)), (a2, .inl (cB, 4096, .inl g))]) [0, 1, 2] rfl
    have hKc := hK.sub (tys' := [(cA, .int), (cB, .int)]) [0, 1] rfl
    have hDc := hD.sub (ws' := [(h0, .inr (0, [.ref a1, .ref a2, .int (nI w), .int (nI h), .int (nI kw), .int (nI kh)])), (a1, .inl (cA, 4096, .inl f)), (a2, .inl (cB, 4096, .inl g))]) [0, 1, 2] (by decide) rfl
    have hFc := va_free (wc := [(h0, .inr (0, [.ref a1, .ref a2, .int (nI w), .int (nI h), .int (nI kw), .int (nI kh)])), (a1, .inl (cA, 4096, .inl f)), (a2, .inl (cB, 4096, .inl g))]) hD hS hA [0, 1, 2] rfl
    refine va_callv (va_runV (As := []) (rest := []) ⟨hx, hb, hml, hown, hts⟩ (kX0_transpose l dC dI s.heap.size h0 a1 a2 cA cB f g w h kw kh (by omega) (by omega) (by omega) (by omega)) (cwV 0 hts gX0_turn_X0_transpose rfl rfl rfl (by decide +kernel) ⟨Nat.le_of_ble_eq_true rfl, Nat.le_of_ble_eq_true rfl⟩) ⟨fun a U g mk q => by obtain ⟨q0, q1, qP, qK, qD⟩ := q; exact ⟨q0, q1, qP, va_K.moved (u := U) (U := U.calling g mk a) (Vm.Alike.refl U.vm) qK, qD⟩, va_recv hKc hPc (ci := 0) (q0 := 0) rfl rfl, fun U hU hW => ⟨rfl, by rw [hU], by rw [hU]; exact hPc, va_K.moved hW.alike hKc, hDc.weaken (fun _ _ _ _ => trivial)⟩⟩ rfl rfl hl.1 rfl (lv_room (Nat.le_of_ble_eq_true rfl)) dX0_turn_55 ⟨Nat.le_of_ble_eq_true rfl, Nat.le_of_ble_eq_true rfl⟩) hS (fun q _ h => hFc q h) hFc (fun u55 t H1 locs ht hvm w55 hB hz1 hk1 hS => ?_)
    obtain ⟨hP1, -, hD1⟩ := hB
    rw [ht] at hP1
    try dsimp only at w55
    obtain ⟨hP, hD⟩ := va_join (wr := []) (w1 := [(h0, .inr (0, [.ref a1, .ref a2, .int (nI h), .int (nI w), .int (nI kw), .int (nI kh)])), (a1, .inl (cA, 4096, .inl u55)), (a2, .inl (cB, 4096, .inl g))]) hP hD [0, 1, 2] [] rfl rfl (by decide) (by decide) hk1 hFc hP1 hD1
    generalize H1 = H at hP hS ⊢
    have hP : va_P (dC, dI) vwCm [(h0, .inr (0, [.ref a1, .ref a2, .int (nI h), .int (nI w), .int (nI kw), .int (nI kh)])), (a1, .inl (cA, 4096, .inl u55)), (a2, .inl (cB, 4096, .inl g))] H := hP
    have hD : va_D A [(h0, .inr (0, [.ref a1, .ref a2, .int (nI h), .int (nI w), .int (nI kw), .int (nI kh)])), (a1, .inl (cA, 4096, .inl u55)), (a2, .inl (cB, 4096, .inl g))] := hD
    refine lv_aload_n hx hb dX0_turn_58 rfl (lv_at hl 0 rfl) ?_
    have hPc := hP.sub (ws' := [(h0, .inr (0, [.ref a1, .ref a2, .int (nI h), .int (nI w), .int (nI kw), .int (nI kh)])), (a1, .inl (cA, 4096, .inl u55)), (a2, .inl (cB, 4096, .inl g))]) [0, 1, 2] rfl
    have hKc := hK.sub (tys' := [(cA, .int), (cB, .int)]) [0, 1] rfl
    have hDc := hD.sub (ws' := [(h0, .inr (0, [.ref a1, .ref a2, .int (nI h), .int (nI w), .int (nI kw), .int (nI kh)])), (a1, .inl (cA, 4096, .inl u55)), (a2, .inl (cB, 4096, .inl g))]) [0, 1, 2] (by decide) rfl
    have hFc := va_free (wc := [(h0, .inr (0, [.ref a1, .ref a2, .int (nI h), .int (nI w), .int (nI kw), .int (nI kh)])), (a1, .inl (cA, 4096, .inl u55)), (a2, .inl (cB, 4096, .inl g))]) hD hS hA [0, 1, 2] rfl
    refine va_callv (va_runV (As := []) (rest := []) ⟨hx, hb, hml, hown, hts⟩ (kX0_flip l dC dI H.size h0 a1 a2 cA cB u55 g h w kw kh (by omega) (by omega) (by omega) (by omega)) (cwV 0 hts gX0_turn_X0_flip rfl rfl rfl (by decide +kernel) ⟨Nat.le_of_ble_eq_true rfl, Nat.le_of_ble_eq_true rfl⟩) ⟨fun a U g mk q => by obtain ⟨q0, q1, qP, qK, qD⟩ := q; exact ⟨q0, q1, qP, va_K.moved (u := U) (U := U.calling g mk a) (Vm.Alike.refl U.vm) qK, qD⟩, va_recv hKc hPc (ci := 0) (q0 := 0) rfl rfl, fun U hU hW => ⟨rfl, by rw [hU], by rw [hU]; exact hPc, va_K.moved hW.alike hKc, hDc.weaken (fun _ _ _ _ => trivial)⟩⟩ rfl rfl hl.1 rfl (lv_room (Nat.le_of_ble_eq_true rfl)) dX0_turn_59 ⟨Nat.le_of_ble_eq_true rfl, Nat.le_of_ble_eq_true rfl⟩) hS (fun q _ h => hFc q h) hFc (fun u59 t H1 locs ht hvm w59 hB hz1 hk1 hS => ?_)
    obtain ⟨hP1, -, hD1⟩ := hB
    rw [ht] at hP1
    try dsimp only at w59
    obtain ⟨hP, hD⟩ := va_join (wr := []) (w1 := [(h0, .inr (0, [.ref a1, .ref a2, .int (nI h), .int (nI w), .int (nI kw), .int (nI kh)])), (a1, .inl (cA, 4096, .inl u59)), (a2, .inl (cB, 4096, .inl g))]) hP hD [0, 1, 2] [] rfl rfl (by decide) (by decide) hk1 hFc hP1 hD1
    generalize H1 = H at hP hS ⊢
    have hP : va_P (dC, dI) vwCm [(h0, .inr (0, [.ref a1, .ref a2, .int (nI h), .int (nI w), .int (nI kw), .int (nI kh)])), (a1, .inl (cA, 4096, .inl u59)), (a2, .inl (cB, 4096, .inl g))] H := hP
    have hD : va_D A [(h0, .inr (0, [.ref a1, .ref a2, .int (nI h), .int (nI w), .int (nI kw), .int (nI kh)])), (a1, .inl (cA, 4096, .inl u59)), (a2, .inl (cB, 4096, .inl g))] := hD
    refine lv_goto (tgt := 65) hx hb dX0_turn_62 (by decide) ?_
    have hP9 := hP.sub (ws' := [(h0, .inr (0, [.ref a1, .ref a2, .int (nI h), .int (nI w), .int (nI kw), .int (nI kh)])), (a1, .inl (cA, 4096, .inl u59)), (a2, .inl (cB, 4096, .inl g))]) [0, 1, 2] rfl
    have hD9 := hD.sub (ws' := [(h0, .inr (0, [.ref a1, .ref a2, .int (nI h), .int (nI w), .int (nI kw), .int (nI kh)])), (a1, .inl (cA, 4096, .inl u59)), (a2, .inl (cB, 4096, .inl g))]) [0, 1, 2] (by decide) rfl
    exact W.vret hx hb hr (fun t ht hW => ⟨⟨(u59, h, w), rfl, (by rw [e]; exact ⟨rfl, rfl, w59.tr ((cf_fl_ag w55).tr (cf_tu3 _))⟩), by rw [ht]; exact hP9, va_K.moved hW.alike hK, hD9⟩, hS.F ht⟩) hS.2.2 dX0_turn_65
set_option maxHeartbeats 4000000 in
set_option maxRecDepth 100000 in
/-- X0_look -/
theorem kX0_look (l : Launch) (dC : Nat → ClassId) (dI : Nat → Nat → Nat) (h0 a1 a2 : Nat) (cA cB : ClassId) (f g : Nat → Int32) (w h kw kh : Nat) (i : Int32) (hw : w ≤ 8) (hh : h ≤ 8) : Met l yX0_look wsX0_look ({ frames := 2, cells := 0, slots := 0, locals := 45 }) (va_Pc [.ref h0, .int i] (fun U => va_P (dC, dI) vwCm [(h0, .inr (0, [.ref a1, .ref a2, .int (nI w), .int (nI h), .int (nI kw), .int (nI kh)])), (a1, .inl (cA, 4096, .inl f)), (a2, .inl (cB, 4096, .inl g))] U.heap ∧ va_K (dC, dI) vwCm [(cA, .int), (cB, .int)] U)) (vp_Si (fun r : Int32 => r = cf_lk w h kw kh (cf_V f) i)) 0 0 (fun _ => False) := by
  refine Met.ofW (cc := cX0_look) (maxL := 2) (ret := (some .int)) (by decide) rfl ?_
  intro p e s m args below meth c s₁ B hml hv
  obtain ⟨rfl, hP, hK⟩ := hv
  have hx := B.exec
  have hb := B.bytes
  have hr := B.returns
  have hts := atoms_spec (ws := wsX0_look) B.pre
  have hown : s.vm.findClass RX0 = some m.cls := findClass_of_methodNamed B.named
  have hlocks := B.notSynchronized
  have hl := lv_entry ([.ref h0, .int i]) (n := 2) (Nat.le_of_ble_eq_true rfl)
  rw [lg_entry_eq]
  generalize (lg_sl ([.ref h0, .int i]) ++ List.replicate (2 - (lg_sl ([.ref h0, .int i])).length) Slot.unset).toArray = ls at hl ⊢
  have hl : lv_has ls 2 [(0, .ref h0), (1, .int i)] := hl
  refine lv_iload_n hx hb dX0_look_0 rfl (lv_at hl 1 rfl) ?_
  by_cases e0 : i = nI 0
  · skip
    refine cf_top e0 ?_
    refine lv_tableIn (off := 39) (tgt := 40) hx hb dX0_look_1 (by decide +kernel) (by decide +kernel) (by decide +kernel) (by decide) ?_
    refine lv_aload_n hx hb dX0_look_40 rfl (lv_at hl 0 rfl) ?_
    refine va_get (D := (dC, dI)) (ci := 0) (v := .int (nI w)) (C := RX0) (T := TX0) (N := 6) hx hb hts (by decide +kernel) hown hK hP 0 rfl rfl 2 (by decide) (hts (.fieldLink RX0 13 "CoefTurns" "width" "I") (by decide +kernel)) (fun _ h9 => h9) rfl dX0_look_41 ?_
    exact W.iret hx hb hr (fun t ht hW => ⟨_, rfl, (by unfold cf_lk; rw [if_pos e0]), ht⟩) (fun q h => by cases h) dX0_look_44
  by_cases e1 : i = nI 1
  · skip
    refine cf_top e1 ?_
    refine lv_tableIn (off := 44) (tgt := 45) hx hb dX0_look_1 (by decide +kernel) (by decide +kernel) (by decide +kernel) (by decide) ?_
    refine lv_aload_n hx hb dX0_look_45 rfl (lv_at hl 0 rfl) ?_
    refine va_get (D := (dC, dI)) (ci := 0) (v := .int (nI h)) (C := RX0) (T := TX0) (N := 6) hx hb hts (by decide +kernel) hown hK hP 0 rfl rfl 3 (by decide) (hts (.fieldLink RX0 17 "CoefTurns" "height" "I") (by decide +kernel)) (fun _ h9 => h9) rfl dX0_look_46 ?_
    exact W.iret hx hb hr (fun t ht hW => ⟨_, rfl, (by unfold cf_lk; rw [if_neg e0, if_pos e1]), ht⟩) (fun q h => by cases h) dX0_look_49
  by_cases e2 : i = nI 2
  · skip
    refine cf_top e2 ?_
    refine lv_tableIn (off := 49) (tgt := 50) hx hb dX0_look_1 (by decide +kernel) (by decide +kernel) (by decide +kernel) (by decide) ?_
    refine lv_aload_n hx hb dX0_look_50 rfl (lv_at hl 0 rfl) ?_
    have hPc := hP.sub (ws' := [(h0, .inr (0, [.ref a1, .ref a2, .int (nI w), .int (nI h), .int (nI kw), .int (nI kh)])), (a1, .inl (cA, 4096, .inl f)), (a2, .inl (cB, 4096, .inl g))]) [0, 1, 2] rfl
    have hKc := hK.sub (tys' := [(cA, .int), (cB, .int)]) [0, 1] rfl
    refine vp_callSi (W.runV (As := []) (rest := []) ⟨hx, hb, hml, hown, hts⟩ (kX0_countNotZero l dC dI h0 a1 a2 cA cB f g w h kw kh  hw hh) (cwV 0 hts gX0_look_X0_countNotZero rfl rfl rfl (by decide +kernel) ⟨Nat.le_of_ble_eq_true rfl, Nat.le_of_ble_eq_true rfl⟩) ⟨fun a U g mk q => by obtain ⟨q0, qP, qK⟩ := q; exact ⟨q0, qP, va_K.moved (u := U) (U := U.calling g mk a) (Vm.Alike.refl U.vm) qK⟩, va_recv hKc hPc (ci := 0) (q0 := 0) rfl rfl, fun U hU hW => ⟨rfl, by rw [hU]; exact hPc, va_K.moved hW.alike hKc⟩⟩ rfl rfl hl.1 rfl (lv_room (Nat.le_of_ble_eq_true rfl)) dX0_look_51 ⟨Nat.le_of_ble_eq_true rfl, Nat.le_of_ble_eq_true rfl⟩) (fun r51 w51 => ?_)
    exact W.iret hx hb hr (fun t ht hW => ⟨_, rfl, (by unfold cf_lk; rw [if_neg e0, if_neg e1, if_pos e2, w51]), ht⟩) (fun q h => by cases h) dX0_look_54
  by_cases e3 : i = nI 3
  · skip
    refine cf_top e3 ?_
    refine lv_tableIn (off := 54) (tgt := 55) hx hb dX0_look_1 (by decide +kernel) (by decide +kernel) (by decide +kernel) (by decide) ?_
    refine lv_aload_n hx hb dX0_look_55 rfl (lv_at hl 0 rfl) ?_
    have hPc := hP.sub (ws' := [(h0, .inr (0, [.ref a1, .ref a2, .int (nI w), .int (nI h), .int (nI kw), .int (nI kh)])), (a1, .inl (cA, 4096, .inl f)), (a2, .inl (cB, 4096, .inl g))]) [0, 1, 2] rfl
    have hKc := hK.sub (tys' := [(cA, .int), (cB, .int)]) [0, 1] rfl
    refine vp_callSi (W.runV (As := []) (rest := []) ⟨hx, hb, hml, hown, hts⟩ (kX0_greatestSize l dC dI h0 a1 a2 cA cB f g w h kw kh  hw hh) (cwV 0 hts gX0_look_X0_greatestSize rfl rfl rfl (by decide +kernel) ⟨Nat.le_of_ble_eq_true rfl, Nat.le_of_ble_eq_true rfl⟩) ⟨fun a U g mk q => by obtain ⟨q0, qP, qK⟩ := q; exact ⟨q0, qP, va_K.moved (u := U) (U := U.calling g mk a) (Vm.Alike.refl U.vm) qK⟩, va_recv hKc hPc (ci := 0) (q0 := 0) rfl rfl, fun U hU hW => ⟨rfl, by rw [hU]; exact hPc, va_K.moved hW.alike hKc⟩⟩ rfl rfl hl.1 rfl (lv_room (Nat.le_of_ble_eq_true rfl)) dX0_look_56 ⟨Nat.le_of_ble_eq_true rfl, Nat.le_of_ble_eq_true rfl⟩) (fun r56 w56 => ?_)
    exact W.iret hx hb hr (fun t ht hW => ⟨_, rfl, (by unfold cf_lk; rw [if_neg e0, if_neg e1, if_neg e2, if_pos e3, w56]), ht⟩) (fun q h => by cases h) dX0_look_59
  by_cases e4 : i = nI 4
  · skip
    refine cf_top e4 ?_
    refine lv_tableIn (off := 59) (tgt := 60) hx hb dX0_look_1 (by decide +kernel) (by decide +kernel) (by decide +kernel) (by decide) ?_
    refine lv_aload_n hx hb dX0_look_60 rfl (lv_at hl 0 rfl) ?_
    refine va_get (D := (dC, dI)) (ci := 0) (v := .int (nI kw)) (C := RX0) (T := TX0) (N := 6) hx hb hts (by decide +kernel) hown hK hP 0 rfl rfl 4 (by decide) (hts (.fieldLink RX0 20 "CoefTurns" "keptWidth" "I") (by decide +kernel)) (fun _ h9 => h9) rfl dX0_look_61 ?_
    exact W.iret hx hb hr (fun t ht hW => ⟨_, rfl, (by unfold cf_lk; rw [if_neg e0, if_neg e1, if_neg e2, if_neg e3, if_pos e4]), ht⟩) (fun q h => by cases h) dX0_look_64
  by_cases e5 : i = nI 5
  · skip
    refine cf_top e5 ?_
    refine lv_tableIn (off := 64) (tgt := 65) hx hb dX0_look_1 (by decide +kernel) (by decide +kernel) (by decide +kernel) (by decide) ?_
    refine lv_aload_n hx hb dX0_look_65 rfl (lv_at hl 0 rfl) ?_
    refine va_get (D := (dC, dI)) (ci := 0) (v := .int (nI kh)) (C := RX0) (T := TX0) (N := 6) hx hb hts (by decide +kernel) hown hK hP 0 rfl rfl 5 (by decide) (hts (.fieldLink RX0 23 "CoefTurns" "keptHeight" "I") (by decide +kernel)) (fun _ h9 => h9) rfl dX0_look_66 ?_
    exact W.iret hx hb hr (fun t ht hW => ⟨_, rfl, (by unfold cf_lk; rw [if_neg e0, if_neg e1, if_neg e2, if_neg e3, if_neg e4, if_pos e5]), ht⟩) (fun q h => by cases h) dX0_look_69
  have f0 := lv_neT e0 (nI_toInt (n := 0) (by omega))
  have f1 := lv_neT e1 (nI_toInt (n := 1) (by omega))
  have f2 := lv_neT e2 (nI_toInt (n := 2) (by omega))
  have f3 := lv_neT e3 (nI_toInt (n := 3) (by omega))
  have f4 := lv_neT e4 (nI_toInt (n := 4) (by omega))
  have f5 := lv_neT e5 (nI_toInt (n := 5) (by omega))
  refine lv_tableOut (tgt := 70) hx hb dX0_look_1 (by omega) (by decide) ?_
  refine lv_iconst (v := (-1)) hx hb dX0_look_70 (by decide +kernel) ?_
  exact W.iret hx hb hr (fun t ht hW => ⟨_, rfl, (by unfold cf_lk; rw [if_neg e0, if_neg e1, if_neg e2, if_neg e3, if_neg e4, if_neg e5]), ht⟩) (fun q h => by cases h) dX0_look_71
set_option maxHeartbeats 4000000 in
set_option maxRecDepth 100000 in
/-- X0_crop -/
theorem kX0_crop (l : Launch) (dC : Nat → ClassId) (dI : Nat → Nat → Nat) (sz : Nat) (h0 a1 a2 : Nat) (cA cB : ClassId) (f g : Nat → Int32) (w h kw kh : Nat) (x y a b : Int32) (hw : w ≤ 8) (hh : h ≤ 8) : Met l yX0_crop wsX0_crop ({ frames := 1, cells := 0, slots := 0, locals := 64 }) (va_Pc [.ref h0, .int x, .int y, .int a, .int b] (fun U => U.heap.size = sz ∧ va_P (dC, dI) vwCm [(h0, .inr (0, [.ref a1, .ref a2, .int (nI w), .int (nI h), .int (nI kw), .int (nI kh)])), (a1, .inl (cA, 4096, .inl f)), (a2, .inl (cB, 4096, .inl g))] U.heap ∧ va_K (dC, dI) vwCm [(cA, .int), (cB, .int)] U ∧ va_D (fun _ => True) [(h0, .inr (0, [.ref a1, .ref a2, .int (nI w), .int (nI h), .int (nI kw), .int (nI kh)])), (a1, .inl (cA, 4096, .inl f)), (a2, .inl (cB, 4096, .inl g))])) (va_Qi (fun (r : Int32) (u : (Nat → Int32) × Nat × Nat) => (r = nI 0 ∧ (¬ ∃ X Y A B, cf_ok w h x y a b X Y A B) ∧ u.1 = f ∧ u.2.1 = w ∧ u.2.2 = h) ∨ (r = nI 1 ∧ ∃ X Y, cf_ok w h x y a b X Y u.2.1 u.2.2 ∧ cf_Ag u.2.1 u.2.2 (cf_V u.1) (cf_cr X Y (cf_V f)))) (fun (u : (Nat → Int32) × Nat × Nat) (t : State) => va_P (dC, dI) vwCm [(h0, .inr (0, [.ref a1, .ref a2, .int (nI u.2.1), .int (nI u.2.2), .int (nI kw), .int (nI kh)])), (a1, .inl (cA, 4096, .inl u.1)), (a2, .inl (cB, 4096, .inl g))] t.heap ∧ va_K (dC, dI) vwCm [(cA, .int), (cB, .int)] t ∧ va_D (va_A [(h0, .inr (0, [.ref a1, .ref a2, .int (nI w), .int (nI h), .int (nI kw), .int (nI kh)])), (a1, .inl (cA, 4096, .inl f)), (a2, .inl (cB, 4096, .inl g))] sz) [(h0, .inr (0, [.ref a1, .ref a2, .int (nI u.2.1), .int (nI u.2.2), .int (nI kw), .int (nI kh)])), (a1, .inl (cA, 4096, .inl u.1)), (a2, .inl (cB, 4096, .inl g))]) (va_A [(h0, .inr (0, [.ref a1, .ref a2, .int (nI w), .int (nI h), .int (nI kw), .int (nI kh)])), (a1, .inl (cA, 4096, .inl f)), (a2, .inl (cB, 4096, .inl g))] sz)) 0 0 (va_A [(h0, .inr (0, [.ref a1, .ref a2, .int (nI w), .int (nI h), .int (nI kw), .int (nI kh)])), (a1, .inl (cA, 4096, .inl f)), (a2, .inl (cB, 4096, .inl g))] sz) := by
  refine Met.ofW (cc := cX0_crop) (maxL := 6) (ret := (some .boolean)) (by decide) rfl ?_
  intro p e s m args below meth c s₁ B hml hv
  obtain ⟨rfl, hsz, hP, hK, hD0⟩ := hv
  have hx := B.exec
  have hb := B.bytes
  have hr := B.returns
  have hts := atoms_spec (ws := wsX0_crop) B.pre
  have hown : s.vm.findClass RX0 = some m.cls := findClass_of_methodNamed B.named
  have hlocks := B.notSynchronized
  subst hsz
  have hD := hD0.self (sz := s.heap.size)
  generalize hAe : va_A [(h0, .inr (0, [.ref a1, .ref a2, .int (nI w), .int (nI h), .int (nI kw), .int (nI kh)])), (a1, .inl (cA, 4096, .inl f)), (a2, .inl (cB, 4096, .inl g))] s.heap.size = A at hD ⊢
  have hA : ∀ q : Nat, s.heap.size ≤ q → A q := fun q h => by rw [← hAe]; exact Or.inr h
  have hS : va_S A s.heap s.heap [] := va_S.rf
  have hP : va_P (dC, dI) vwCm [(h0, .inr (0, [.ref a1, .ref a2, .int (nI w), .int (nI h), .int (nI kw), .int (nI kh)])), (a1, .inl (cA, 4096, .inl f)), (a2, .inl (cB, 4096, .inl g))] s.heap := hP
  have hl := lv_entry ([.ref h0, .int x, .int y, .int a, .int b]) (n := 6) (Nat.le_of_ble_eq_true rfl)
  rw [lg_entry_eq]
  generalize (lg_sl ([.ref h0, .int x, .int y, .int a, .int b]) ++ List.replicate (6 - (lg_sl ([.ref h0, .int x, .int y, .int a, .int b])).length) Slot.unset).toArray = ls at hl ⊢
  have hl : lv_has ls 6 [(0, .ref h0), (1, .int x), (2, .int y), (3, .int a), (4, .int b)] := hl
  refine lv_iload_n hx hb dX0_crop_0 rfl (lv_at hl 3 rfl) ?_
  refine lv_iconst (v := nI 1) hx hb dX0_crop_1 (by decide +kernel) ?_
  refine lv_icmp_lt (tgt := 19) hx hb dX0_crop_2 (by decide) (fun c2 => ?_) (fun c2 => ?_)
  · skip
    refine lv_iconst (v := nI 0) hx hb dX0_crop_19 (by decide +kernel) ?_
    have hP9 := hP.sub (ws' := [(h0, .inr (0, [.ref a1, .ref a2, .int (nI w), .int (nI h), .int (nI kw), .int (nI kh)])), (a1, .inl (cA, 4096, .inl f)), (a2, .inl (cB, 4096, .inl g))]) [0, 1, 2] rfl
    have hD9 := hD.sub (ws' := [(h0, .inr (0, [.ref a1, .ref a2, .int (nI w), .int (nI h), .int (nI kw), .int (nI kh)])), (a1, .inl (cA, 4096, .inl f)), (a2, .inl (cB, 4096, .inl g))]) [0, 1, 2] (by decide) rfl
    exact W.zret (ty := .boolean) hx hb hr rfl (fun t ht hW => ⟨⟨_, (f, w, h), rfl, (Or.inl ⟨rfl, (by first | exact cf_no1 hw hh (Or.inr (Or.inr (Or.inl c2))) | exact cf_no1 hw hh (Or.inr (Or.inr (Or.inr c8))) | exact cf_no1 hw hh (Or.inl c12) | exact cf_no1 hw hh (Or.inr (Or.inl (cf_nle c16)))), rfl, rfl, rfl⟩), by rw [ht]; exact hP9, va_K.moved hW.alike hK, hD9⟩, hS.F ht⟩) hS.2.2 dX0_crop_20
  · skip
    refine lv_iload hx hb dX0_crop_5 (lv_at hl 4 rfl) ?_
    refine lv_iconst (v := nI 1) hx hb dX0_crop_7 (by decide +kernel) ?_
    refine lv_icmp_lt (tgt := 19) hx hb dX0_crop_8 (by decide) (fun c8 => ?_) (fun c8 => ?_)
    · skip
      refine lv_iconst (v := nI 0) hx hb dX0_crop_19 (by decide +kernel) ?_
      have hP9 := hP.sub (ws' := [(h0, .inr (0, [.ref a1, .ref a2, .int (nI w), .int (nI h), .int (nI kw), .int (nI kh)])), (a1, .inl (cA, 4096, .inl f)), (a2, .inl (cB, 4096, .inl g))]) [0, 1, 2] rfl
      have hD9 := hD.sub (ws' := [(h0, .inr (0, [.ref a1, .ref a2, .int (nI w), .int (nI h), .int (nI kw), .int (nI kh)])), (a1, .inl (cA, 4096, .inl f)), (a2, .inl (cB, 4096, .inl g))]) [0, 1, 2] (by decide) rfl
      exact W.zret (ty := .boolean) hx hb hr rfl (fun t ht hW => ⟨⟨_, (f, w, h), rfl, (Or.inl ⟨rfl, (by first | exact cf_no1 hw hh (Or.inr (Or.inr (Or.inl c2))) | exact cf_no1 hw hh (Or.inr (Or.inr (Or.inr c8))) | exact cf_no1 hw hh (Or.inl c12) | exact cf_no1 hw hh (Or.inr (Or.inl (cf_nle c16)))), rfl, rfl, rfl⟩), by rw [ht]; exact hP9, va_K.moved hW.alike hK, hD9⟩, hS.F ht⟩) hS.2.2 dX0_crop_20
    · skip
      refine lv_iload_n hx hb dX0_crop_11 rfl (lv_at hl 1 rfl) ?_
      refine lv_if_lt (tgt := 19) hx hb dX0_crop_12 (by decide) (fun c12 => ?_) (fun c12 => ?_)
      · skip
        refine lv_iconst (v := nI 0) hx hb dX0_crop_19 (by decide +kernel) ?_
        have hP9 := hP.sub (ws' := [(h0, .inr (0, [.ref a1, .ref a2, .int (nI w), .int (nI h), .int (nI kw), .int (nI kh)])), (a1, .inl (cA, 4096, .inl f)), (a2, .inl (cB, 4096, .inl g))]) [0, 1, 2] rfl
        have hD9 := hD.sub (ws' := [(h0, .inr (0, [.ref a1, .ref a2, .int (nI w), .int (nI h), .int (nI kw), .int (nI kh)])), (a1, .inl (cA, 4096, .inl f)), (a2, .inl (cB, 4096, .inl g))]) [0, 1, 2] (by decide) rfl
        exact W.zret (ty := .boolean) hx hb hr rfl (fun t ht hW => ⟨⟨_, (f, w, h), rfl, (Or.inl ⟨rfl, (by first | exact cf_no1 hw hh (Or.inr (Or.inr (Or.inl c2))) | exact cf_no1 hw hh (Or.inr (Or.inr (Or.inr c8))) | exact cf_no1 hw hh (Or.inl c12) | exact cf_no1 hw hh (Or.inr (Or.inl (cf_nle c16)))), rfl, rfl, rfl⟩), by rw [ht]; exact hP9, va_K.moved hW.alike hK, hD9⟩, hS.F ht⟩) hS.2.2 dX0_crop_20
      · skip
        refine lv_iload_n hx hb dX0_crop_15 rfl (lv_at hl 2 rfl) ?_
        refine lv_if_ge (tgt := 21) hx hb dX0_crop_16 (by decide) (fun c16 => ?_) (fun c16 => ?_)
        · skip
          obtain ⟨X, eX, hX⟩ := cf_nat c12
          obtain ⟨Y, eY, hY⟩ := cf_nat (cf_nlt c16)
          obtain ⟨A9, eA, hA9, hA1⟩ := cf_pos c2
          obtain ⟨B9, eB, hB9, hB1⟩ := cf_pos c8
          refine lv_iload_n hx hb dX0_crop_21 rfl (lv_at hl 3 rfl) ?_
          refine cf_top eA ?_
          refine lv_aload_n hx hb dX0_crop_22 rfl (lv_at hl 0 rfl) ?_
          refine va_get (D := (dC, dI)) (ci := 0) (v := .int (nI w)) (C := RX0) (T := TX0) (N := 6) hx hb hts (by decide +kernel) hown hK hP 0 rfl rfl 2 (by decide) (hts (.fieldLink RX0 13 "CoefTurns" "width" "I") (by decide +kernel)) (fun _ h9 => h9) rfl dX0_crop_23 ?_
          refine lv_iload_n hx hb dX0_crop_26 rfl (lv_at hl 1 rfl) ?_
          refine cf_top eX ?_
          refine lv_isub hx hb dX0_crop_27 ?_
          refine lv_icmp_gt (tgt := 42) hx hb dX0_crop_28 (by decide) (fun c28 => ?_) (fun c28 => ?_)
          · skip
            have g4 := (cf_crop_c hw hX hA9).mp c28
            refine lv_iconst (v := nI 0) hx hb dX0_crop_42 (by decide +kernel) ?_
            have hP9 := hP.sub (ws' := [(h0, .inr (0, [.ref a1, .ref a2, .int (nI w), .int (nI h), .int (nI kw), .int (nI kh)])), (a1, .inl (cA, 4096, .inl f)), (a2, .inl (cB, 4096, .inl g))]) [0, 1, 2] rfl
            have hD9 := hD.sub (ws' := [(h0, .inr (0, [.ref a1, .ref a2, .int (nI w), .int (nI h), .int (nI kw), .int (nI kh)])), (a1, .inl (cA, 4096, .inl f)), (a2, .inl (cB, 4096, .inl g))]) [0, 1, 2] (by decide) rfl
            exact W.zret (ty := .boolean) hx hb hr rfl (fun t ht hW => ⟨⟨_, (f, w, h), rfl, (Or.inl ⟨rfl, (by rw [eX, eY, eA, eB]; exact cf_no2 hX hY hA9 hB9 hw hh (by omega)), rfl, rfl, rfl⟩), by rw [ht]; exact hP9, va_K.moved hW.alike hK, hD9⟩, hS.F ht⟩) hS.2.2 dX0_crop_43
          · skip
            have g4 : X + A9 ≤ w := by have := mt (cf_crop_c hw hX hA9).mpr c28; omega
            refine lv_iload hx hb dX0_crop_31 (lv_at hl 4 rfl) ?_
            refine cf_top eB ?_
            refine lv_aload_n hx hb dX0_crop_33 rfl (lv_at hl 0 rfl) ?_
            refine va_get (D := (dC, dI)) (ci := 0) (v := .int (nI h)) (C := RX0) (T := TX0) (N := 6) hx hb hts (by decide +kernel) hown hK hP 0 rfl rfl 3 (by decide) (hts (.fieldLink RX0 17 "CoefTurns" "height" "I") (by decide +kernel)) (fun _ h9 => h9) rfl dX0_crop_34 ?_
            refine lv_iload_n hx hb dX0_crop_37 rfl (lv_at hl 2 rfl) ?_
            refine cf_top eY ?_
            refine lv_isub hx hb dX0_crop_38 ?_
            refine lv_icmp_le (tgt := 44) hx hb dX0_crop_39 (by decide) (fun c39 => ?_) (fun c39 => ?_)
            · skip
              have g5 : Y + B9 ≤ h := by have := mt (cf_crop_c hh hY hB9).mpr (cf_nlt c39); omega
              refine lv_iconst (v := nI 0) hx hb dX0_crop_44 (by decide +kernel) ?_
              refine lv_istore (lv' := [(5, .int (nI 0)), (0, .ref h0), (1, .int x), (2, .int y), (3, .int a), (4, .int b)]) hx hb dX0_crop_45 hl (by decide) rfl (fun ls hl => ?_)
              have lp47 : ∀ (n47 : Nat) (y0 : Nat) (fc : Nat → Int32), y0 ≤ B9 → B9 < y0 + n47 → cf_cw X Y A9 y0 f fc → ∀ (H : Heap) (locs : List Loc), va_P (dC, dI) vwCm [(h0, .inr (0, [.ref a1, .ref a2, .int (nI w), .int (nI h), .int (nI kw), .int (nI kh)])), (a1, .inl (cA, 4096, .inl fc)), (a2, .inl (cB, 4096, .inl g))] H → va_D A [(h0, .inr (0, [.ref a1, .ref a2, .int (nI w), .int (nI h), .int (nI kw), .int (nI kh)])), (a1, .inl (cA, 4096, .inl fc)), (a2, .inl (cB, 4096, .inl g))] → va_S A s.heap H locs → ∀ (ls : Array Slot), lv_has ls 6 [(0, .ref h0), (1, .int x), (2, .int y), (3, .int a), (4, .int b), (5, .int (nI y0))] → W p l e (headSpec wsX0_crop ({ frames := 1, cells := 0, slots := 0, locals := 64 })).room s m ([.ref h0, .int x, .int y, .int a, .int b] : List Value).toArray below meth c H locs 0 0 (MQ below (va_Qi (fun (r : Int32) (u : (Nat → Int32) × Nat × Nat) => (r = nI 0 ∧ (¬ ∃ X Y A B, cf_ok w h x y a b X Y A B) ∧ u.1 = f ∧ u.2.1 = w ∧ u.2.2 = h) ∨ (r = nI 1 ∧ ∃ X Y, cf_ok w h x y a b X Y u.2.1 u.2.2 ∧ cf_Ag u.2.1 u.2.2 (cf_V u.1) (cf_cr X Y (cf_V f)))) (fun (u : (Nat → Int32) × Nat × Nat) (t : State) => va_P (dC, dI) vwCm [(h0, .inr (0, [.ref a1, .ref a2, .int (nI u.2.1), .int (nI u.2.2), .int (nI kw), .int (nI kh)])), (a1, .inl (cA, 4096, .inl u.1)), (a2, .inl (cB, 4096, .inl g))] t.heap ∧ va_K (dC, dI) vwCm [(cA, .int), (cB, .int)] t ∧ va_D A [(h0, .inr (0, [.ref a1, .ref a2, .int (nI u.2.1), .int (nI u.2.2), .int (nI kw), .int (nI kh)])), (a1, .inl (cA, 4096, .inl u.1)), (a2, .inl (cB, 4096, .inl g))]) A) ([.ref h0, .int x, .int y, .int a, .int b] : List Value).toArray s 0 0 A) (F0 m 47 ls []) := by
                intro n47
                induction n47 with
                | zero => intro y0 fc h1 h2; exact absurd h2 (by omega)
                | succ n47 ih47 =>
                  intro y0 fc hk47 hn47 hI H locs hP hD hS ls hl
                  refine lv_iload hx hb dX0_crop_47 (lv_at hl 5 rfl) ?_
                  refine lv_iload hx hb dX0_crop_49 (lv_at hl 4 rfl) ?_
                  refine cf_top eB ?_
                  refine lv_icmp_ge (tgt := 89) hx hb dX0_crop_51 (by decide) (fun c51 => ?_) (fun c51 => ?_)
                  · skip
                    have c51 := (nI_leI (a := B9) (b := y0) (by omega) (by omega)).mp c51
                    refine lv_aload_n hx hb dX0_crop_89 rfl (lv_at hl 0 rfl) ?_
                    refine lv_iload_n hx hb dX0_crop_90 rfl (lv_at hl 3 rfl) ?_
                    refine cf_top eA ?_
                    refine va_put (D := (dC, dI)) (ci := 0) (v := .int (nI A9)) (ty := .int) (C := RX0) (T := TX0) (N := 6) hx hb hts (by decide +kernel) tyX0 tyX0_ok nmX0 hown hK hP hD hS 0 rfl rfl 2 (by decide) (hts (.fieldLink RX0 13 "CoefTurns" "width" "I") (by decide +kernel)) (fun _ h9 => h9) rfl (by decide +kernel) rfl rfl (Nat.le_of_ble_eq_true rfl) dX0_crop_91 (fun H locs hP hD hS => ?_)
                    have hP : va_P (dC, dI) vwCm [(h0, .inr (0, [.ref a1, .ref a2, .int (nI A9), .int (nI h), .int (nI kw), .int (nI kh)])), (a1, .inl (cA, 4096, .inl fc)), (a2, .inl (cB, 4096, .inl g))] H := hP
                    have hD : va_D A [(h0, .inr (0, [.ref a1, .ref a2, .int (nI A9), .int (nI h), .int (nI kw), .int (nI kh)])), (a1, .inl (cA, 4096, .inl fc)), (a2, .inl (cB, 4096, .inl g))] := hD
                    refine lv_aload_n hx hb dX0_crop_94 rfl (lv_at hl 0 rfl) ?_
                    refine lv_iload hx hb dX0_crop_95 (lv_at hl 4 rfl) ?_
                    refine cf_top eB ?_
                    refine va_put (D := (dC, dI)) (ci := 0) (v := .int (nI B9)) (ty := .int) (C := RX0) (T := TX0) (N := 6) hx hb hts (by decide +kernel) tyX0 tyX0_ok nmX0 hown hK hP hD hS 0 rfl rfl 3 (by decide) (hts (.fieldLink RX0 17 "CoefTurns" "height" "I") (by decide +kernel)) (fun _ h9 => h9) rfl (by decide +kernel) rfl rfl (Nat.le_of_ble_eq_true rfl) dX0_crop_97 (fun H locs hP hD hS => ?_)
                    have hP : va_P (dC, dI) vwCm [(h0, .inr (0, [.ref a1, .ref a2, .int (nI A9), .int (nI B9), .int (nI kw), .int (nI kh)])), (a1, .inl (cA, 4096, .inl fc)), (a2, .inl (cB, 4096, .inl g))] H := hP
                    have hD : va_D A [(h0, .inr (0, [.ref a1, .ref a2, .int (nI A9), .int (nI B9), .int (nI kw), .int (nI kh)])), (a1, .inl (cA, 4096, .inl fc)), (a2, .inl (cB, 4096, .inl g))] := hD
                    refine lv_iconst (v := nI 1) hx hb dX0_crop_100 (by decide +kernel) ?_
                    have hP9 := hP.sub (ws' := [(h0, .inr (0, [.ref a1, .ref a2, .int (nI A9), .int (nI B9), .int (nI kw), .int (nI kh)])), (a1, .inl (cA, 4096, .inl fc)), (a2, .inl (cB, 4096, .inl g))]) [0, 1, 2] rfl
                    have hD9 := hD.sub (ws' := [(h0, .inr (0, [.ref a1, .ref a2, .int (nI A9), .int (nI B9), .int (nI kw), .int (nI kh)])), (a1, .inl (cA, 4096, .inl fc)), (a2, .inl (cB, 4096, .inl g))]) [0, 1, 2] (by decide) rfl
                    exact W.zret (ty := .boolean) hx hb hr rfl (fun t ht hW => ⟨⟨_, (fc, A9, B9), rfl, (Or.inr ⟨rfl, X, Y, ⟨eX, eY, eA, eB, g4, g5, hA1, hB1⟩, by have e : y0 = B9 := (by omega); rw [e] at hI; exact cf_cw_e hI⟩), by rw [ht]; exact hP9, va_K.moved hW.alike hK, hD9⟩, hS.F ht⟩) hS.2.2 dX0_crop_101
                  · skip
                    have c51 := mt (nI_leI (a := B9) (b := y0) (by omega) (by omega)).mpr c51
                    refine lv_aload_n hx hb dX0_crop_54 rfl (lv_at hl 0 rfl) ?_
                    refine va_get (D := (dC, dI)) (ci := 0) (v := .ref a1) (C := RX0) (T := TX0) (N := 6) hx hb hts (by decide +kernel) hown hK hP 0 rfl rfl 0 (by decide) (hts (.fieldLink RX0 26 "CoefTurns" "cells" "[I") (by decide +kernel)) (fun _ h9 => h9) rfl dX0_crop_55 ?_
                    refine lv_iload_n hx hb dX0_crop_58 rfl (lv_at hl 1 rfl) ?_
                    refine cf_top eX ?_
                    refine lv_iload_n hx hb dX0_crop_59 rfl (lv_at hl 2 rfl) ?_
                    refine cf_top eY ?_
                    refine lv_iload hx hb dX0_crop_60 (lv_at hl 5 rfl) ?_
                    refine lv_iadd hx hb dX0_crop_62 ?_
                    refine cf_top (nI_add _ _) ?_
                    refine vp_callSi (W.runS (As := [.int (nI X), .int (nI (Y + y0))]) (rest := [.ref a1]) ⟨hx, hb, hml, hown, hts⟩ (kX0_blockStart l X (Y + y0)) (va_cwS 2 hts gX0_crop_X0_blockStart rfl rfl rfl (by decide +kernel) ⟨Nat.le_of_ble_eq_true rfl, Nat.le_of_ble_eq_true rfl⟩) ⟨fun a U g mk q => q, fun U hU hW => ⟨rfl, trivial⟩⟩ rfl rfl hl.1 rfl (lv_room (Nat.le_of_ble_eq_true rfl)) dX0_crop_63 ⟨Nat.le_of_ble_eq_true rfl, Nat.le_of_ble_eq_true rfl⟩) (fun r63 w63 => ?_)
                    subst w63
                    refine lv_aload_n hx hb dX0_crop_66 rfl (lv_at hl 0 rfl) ?_
                    refine va_get (D := (dC, dI)) (ci := 0) (v := .ref a1) (C := RX0) (T := TX0) (N := 6) hx hb hts (by decide +kernel) hown hK hP 0 rfl rfl 0 (by decide) (hts (.fieldLink RX0 26 "CoefTurns" "cells" "[I") (by decide +kernel)) (fun _ h9 => h9) rfl dX0_crop_67 ?_
                    refine lv_iconst (v := nI 0) hx hb dX0_crop_70 (by decide +kernel) ?_
                    refine lv_iload hx hb dX0_crop_71 (lv_at hl 5 rfl) ?_
                    refine vp_callSi (W.runS (As := [.int (nI 0), .int (nI y0)]) (rest := [.ref a1, .int (nI (64 * (8 * (Y + y0) + X))), .ref a1]) ⟨hx, hb, hml, hown, hts⟩ (kX0_blockStart l 0 y0) (va_cwS 2 hts gX0_crop_X0_blockStart rfl rfl rfl (by decide +kernel) ⟨Nat.le_of_ble_eq_true rfl, Nat.le_of_ble_eq_true rfl⟩) ⟨fun a U g mk q => q, fun U hU hW => ⟨rfl, trivial⟩⟩ rfl rfl hl.1 rfl (lv_room (Nat.le_of_ble_eq_true rfl)) dX0_crop_73 ⟨Nat.le_of_ble_eq_true rfl, Nat.le_of_ble_eq_true rfl⟩) (fun r73 w73 => ?_)
                    subst w73
                    refine lv_iload_n hx hb dX0_crop_76 rfl (lv_at hl 3 rfl) ?_
                    refine cf_top eA ?_
                    refine lv_bipush (v := nI 64) hx hb dX0_crop_77 (by decide +kernel) ?_
                    refine lv_imul hx hb dX0_crop_79 ?_
                    refine cf_top (pk_mul _ _) ?_
                    refine cf_copyi (D := (dC, dI)) hx hb (hml.trans hl.1.symm) hown (hts (.methodLink RX0 91 arraycopyName) (by decide +kernel)) (hts (.native arraycopyName) (by decide +kernel)) (hts (.static arraycopyName) (by decide +kernel)) (hts (.initialized "java/lang/System") (by decide +kernel)) hK hP hD hS 1 1 0 0 rfl rfl rfl rfl (by omega) (by omega) (by decide) (by decide) (Nat.le_of_ble_eq_true rfl) (Nat.le_of_ble_eq_true rfl) dX0_crop_80 (fun H locs hP hD hS => ?_)
                    have hP : va_P (dC, dI) vwCm [(h0, .inr (0, [.ref a1, .ref a2, .int (nI w), .int (nI h), .int (nI kw), .int (nI kh)])), (a1, .inl (cA, 4096, .inl (va_cpy fc fc (64 * (8 * (Y + y0) + X)) (64 * (8 * y0 + 0)) (A9 * 64)))), (a2, .inl (cB, 4096, .inl g))] H := hP
                    have hD : va_D A [(h0, .inr (0, [.ref a1, .ref a2, .int (nI w), .int (nI h), .int (nI kw), .int (nI kh)])), (a1, .inl (cA, 4096, .inl (va_cpy fc fc (64 * (8 * (Y + y0) + X)) (64 * (8 * y0 + 0)) (A9 * 64)))), (a2, .inl (cB, 4096, .inl g))] := hD
                    refine lv_iinc (v := nI (y0 + 1)) (lv' := [(5, .int (nI (y0 + 1))), (0, .ref h0), (1, .int x), (2, .int y), (3, .int a), (4, .int b)]) hx hb dX0_crop_83 hl (k := 5) rfl (by rw [← nI_add]; rfl) (by decide) rfl (fun ls hl => ?_)
                    refine lv_goto (tgt := 47) hx hb dX0_crop_86 (by decide) ?_
                    exact ih47 (y0 + 1) (va_cpy fc fc (64 * (8 * (Y + y0) + X)) (64 * (8 * y0 + 0)) (A9 * 64)) (by omega) (by omega) (cf_cw_s hI (by omega)) H locs hP hD hS ls (lv_sub hl [1, 2, 3, 4, 5, 0] rfl)
              exact lp47 (B9 + 1) 0 f (by omega) (by omega) cf_cw_0 s.heap [] hP hD hS ls (lv_sub hl [1, 2, 3, 4, 5, 0] rfl)
            · skip
              have g5 := (cf_crop_c hh hY hB9).mp (cf_nle c39)
              refine lv_iconst (v := nI 0) hx hb dX0_crop_42 (by decide +kernel) ?_
              have hP9 := hP.sub (ws' := [(h0, .inr (0, [.ref a1, .ref a2, .int (nI w), .int (nI h), .int (nI kw), .int (nI kh)])), (a1, .inl (cA, 4096, .inl f)), (a2, .inl (cB, 4096, .inl g))]) [0, 1, 2] rfl
              have hD9 := hD.sub (ws' := [(h0, .inr (0, [.ref a1, .ref a2, .int (nI w), .int (nI h), .int (nI kw), .int (nI kh)])), (a1, .inl (cA, 4096, .inl f)), (a2, .inl (cB, 4096, .inl g))]) [0, 1, 2] (by decide) rfl
              exact W.zret (ty := .boolean) hx hb hr rfl (fun t ht hW => ⟨⟨_, (f, w, h), rfl, (Or.inl ⟨rfl, (by rw [eX, eY, eA, eB]; exact cf_no2 hX hY hA9 hB9 hw hh (by omega)), rfl, rfl, rfl⟩), by rw [ht]; exact hP9, va_K.moved hW.alike hK, hD9⟩, hS.F ht⟩) hS.2.2 dX0_crop_43
        · skip
          refine lv_iconst (v := nI 0) hx hb dX0_crop_19 (by decide +kernel) ?_
          have hP9 := hP.sub (ws' := [(h0, .inr (0, [.ref a1, .ref a2, .int (nI w), .int (nI h), .int (nI kw), .int (nI kh)])), (a1, .inl (cA, 4096, .inl f)), (a2, .inl (cB, 4096, .inl g))]) [0, 1, 2] rfl
          have hD9 := hD.sub (ws' := [(h0, .inr (0, [.ref a1, .ref a2, .int (nI w), .int (nI h), .int (nI kw), .int (nI kh)])), (a1, .inl (cA, 4096, .inl f)), (a2, .inl (cB, 4096, .inl g))]) [0, 1, 2] (by decide) rfl
          exact W.zret (ty := .boolean) hx hb hr rfl (fun t ht hW => ⟨⟨_, (f, w, h), rfl, (Or.inl ⟨rfl, (by first | exact cf_no1 hw hh (Or.inr (Or.inr (Or.inl c2))) | exact cf_no1 hw hh (Or.inr (Or.inr (Or.inr c8))) | exact cf_no1 hw hh (Or.inl c12) | exact cf_no1 hw hh (Or.inr (Or.inl (cf_nle c16)))), rfl, rfl, rfl⟩), by rw [ht]; exact hP9, va_K.moved hW.alike hK, hD9⟩, hS.F ht⟩) hS.2.2 dX0_crop_20
