set_option maxHeartbeats 4000000 in
set_option maxRecDepth 100000 in
/-- J9_floorMod_7cf53 -/
theorem kJ9_floorMod_7cf53 (l : Launch) (q : Int32) : Met l yJ9_floorMod_7cf53 wsJ9_floorMod_7cf53 ({ frames := 0, cells := 0, slots := 0, locals := 0 }) (va_Pc [.int q, .int (nI 4)] (fun _ => True)) (vp_Si (fun r : Int32 => r = nI (cf_qn q))) 0 0 (fun _ => False) := by
  refine va_MetF (cc := cJ9_floorMod_7cf53) (maxL := 3) (ret := (some .int)) (by decide +kernel) rfl ?_
  intro p e s m args below meth c s₁ B hml hv
  obtain ⟨rfl, -⟩ := hv
  have hx := B.exec
  have hb := B.bytes
  have hr := B.returns
  have hts := atoms_spec (ws := wsJ9_floorMod_7cf53) B.pre
  have hown : s.vm.findClass RJ9 = some m.cls := findClass_of_methodNamed B.named
  have hlocks := B.notSynchronized
  have hl := lv_entry ([.int q, .int (nI 4)]) (n := 3) (Nat.le_of_ble_eq_true rfl)
  rw [lg_entry_eq]
  generalize (lg_sl ([.int q, .int (nI 4)]) ++ List.replicate (3 - (lg_sl ([.int q, .int (nI 4)])).length) Slot.unset).toArray = ls at hl ⊢
  have hl : lv_has ls 3 [(0, .int q), (1, .int (nI 4))] := hl
  refine lv_iload_n hx hb dJ9_floorMod_7cf53_0 rfl (lv_at hl 0 rfl) ?_
  refine lv_iload_n hx hb dJ9_floorMod_7cf53_1 rfl (lv_at hl 1 rfl) ?_
  refine lv_irem hx hb dJ9_floorMod_7cf53_2 (nI_ne0 (by omega) (by omega)) ?_
  refine lv_istore_n (lv' := [(2, .int (q - q / (nI 4) * (nI 4))), (0, .int q), (1, .int (nI 4))]) hx hb dJ9_floorMod_7cf53_3 rfl hl (by decide) rfl (fun ls hl => ?_)
  refine lv_iload_n hx hb dJ9_floorMod_7cf53_4 rfl (lv_at hl 1 rfl) ?_
  refine lv_iload_n hx hb dJ9_floorMod_7cf53_5 rfl (lv_at hl 2 rfl) ?_
  refine lv_ixor hx hb dJ9_floorMod_7cf53_6 ?_
  refine lv_if_ge (tgt := 18) hx hb dJ9_floorMod_7cf53_7 (by decide) (fun c7 => ?_) (fun c7 => ?_)
  · skip
    refine lv_iload_n hx hb dJ9_floorMod_7cf53_18 rfl (lv_at hl 0 rfl) ?_
    exact W.iret hx hb hr (fun t ht hW => ⟨_, rfl, (by first | exact cf_fmA c7 | exact cf_fmB c11 | exact cf_fmC c7 c11), ht⟩) (fun q h => by cases h) dJ9_floorMod_7cf53_19
  · skip
    refine lv_iload_n hx hb dJ9_floorMod_7cf53_10 rfl (lv_at hl 0 rfl) ?_
    refine lv_if_eq (tgt := 18) hx hb dJ9_floorMod_7cf53_11 (by decide) (fun c11 => ?_) (fun c11 => ?_)
    · skip
      refine lv_iload_n hx hb dJ9_floorMod_7cf53_18 rfl (lv_at hl 0 rfl) ?_
      exact W.iret hx hb hr (fun t ht hW => ⟨_, rfl, (by first | exact cf_fmA c7 | exact cf_fmB c11 | exact cf_fmC c7 c11), ht⟩) (fun q h => by cases h) dJ9_floorMod_7cf53_19
    · skip
      refine lv_iload_n hx hb dJ9_floorMod_7cf53_14 rfl (lv_at hl 0 rfl) ?_
      refine lv_iload_n hx hb dJ9_floorMod_7cf53_15 rfl (lv_at hl 2 rfl) ?_
      refine lv_iadd hx hb dJ9_floorMod_7cf53_16 ?_
      exact W.iret hx hb hr (fun t ht hW => ⟨_, rfl, (by first | exact cf_fmA c7 | exact cf_fmB c11 | exact cf_fmC c7 c11), ht⟩) (fun q h => by cases h) dJ9_floorMod_7cf53_17
set_option maxHeartbeats 4000000 in
set_option maxRecDepth 100000 in
/-- X0_nearestSize -/
theorem kX0_nearestSize (l : Launch) (b : Int32) : Met l yX0_nearestSize wsX0_nearestSize ({ frames := 1, cells := 0, slots := 0, locals := 21 }) (va_Pc [.int b] (fun _ => True)) (vp_Si (fun r : Int32 => r = cf_near b)) 0 0 (fun _ => False) := by
  refine Met.ofW (cc := cX0_nearestSize) (maxL := 1) (ret := (some .int)) (by decide) rfl ?_
  intro p e s m args below meth c s₁ B hml hv
  obtain ⟨rfl, -⟩ := hv
  have hx := B.exec
  have hb := B.bytes
  have hr := B.returns
  have hts := atoms_spec (ws := wsX0_nearestSize) B.pre
  have hown : s.vm.findClass RX0 = some m.cls := findClass_of_methodNamed B.named
  have hlocks := B.notSynchronized
  have hl := lv_entry ([.int b]) (n := 1) (Nat.le_of_ble_eq_true rfl)
  rw [lg_entry_eq]
  generalize (lg_sl ([.int b]) ++ List.replicate (1 - (lg_sl ([.int b])).length) Slot.unset).toArray = ls at hl ⊢
  have hl : lv_has ls 1 [(0, .int b)] := hl
  refine lv_iconst (v := nI 1) hx hb dX0_nearestSize_0 (by decide +kernel) ?_
  refine lv_bipush (v := nI 8) hx hb dX0_nearestSize_1 (by decide +kernel) ?_
  refine lv_iload_n hx hb dX0_nearestSize_3 rfl (lv_at hl 0 rfl) ?_
  refine va_mmin hx hb (hml.trans hl.1.symm) hown (hts (.methodLink RX0 107 Lib.Math.min.name) (by decide +kernel)) (hts (.static Lib.Math.min.name) (by decide +kernel)) (hts (.initialized "java/lang/Math") (by decide +kernel)) (hts (.code Lib.Math.min.name Lib.Math.min.code 2 (some .int)) (by first | exact List.mem_of_getElem? (i := 4) rfl | decide +kernel)) (Nat.le_of_ble_eq_true rfl) (Nat.le_of_ble_eq_true rfl) (Nat.le_of_ble_eq_true rfl) (Nat.le_of_ble_eq_true rfl) dX0_nearestSize_4 ?_
  refine va_mmax hx hb (hml.trans hl.1.symm) hown (hts (.methodLink RX0 61 Lib.Math.max.name) (by decide +kernel)) (hts (.static Lib.Math.max.name) (by decide +kernel)) (hts (.initialized "java/lang/Math") (by decide +kernel)) (hts (.code Lib.Math.max.name Lib.Math.max.code 2 (some .int)) (by first | exact List.mem_of_getElem? (i := 7) rfl | decide +kernel)) (Nat.le_of_ble_eq_true rfl) (Nat.le_of_ble_eq_true rfl) (Nat.le_of_ble_eq_true rfl) (Nat.le_of_ble_eq_true rfl) dX0_nearestSize_7 ?_
  exact W.iret hx hb hr (fun t ht hW => ⟨_, rfl, (cf_near_c b), ht⟩) (fun q h => by cases h) dX0_nearestSize_10
set_option maxHeartbeats 4000000 in
set_option maxRecDepth 100000 in
/-- X0_isPlace -/
theorem kX0_isPlace (l : Launch) (q : Int32) : Met l yX0_isPlace wsX0_isPlace ({ frames := 0, cells := 0, slots := 0, locals := 0 }) (va_Pc [.int q] (fun _ => True)) (vp_Si (fun r : Int32 => r = cf_ip q)) 0 0 (fun _ => False) := by
  refine Met.ofW (cc := cX0_isPlace) (maxL := 1) (ret := (some .boolean)) (by decide) rfl ?_
  intro p e s m args below meth c s₁ B hml hv
  obtain ⟨rfl, -⟩ := hv
  have hx := B.exec
  have hb := B.bytes
  have hr := B.returns
  have hts := atoms_spec (ws := wsX0_isPlace) B.pre
  have hown : s.vm.findClass RX0 = some m.cls := findClass_of_methodNamed B.named
  have hlocks := B.notSynchronized
  have hl := lv_entry ([.int q]) (n := 1) (Nat.le_of_ble_eq_true rfl)
  rw [lg_entry_eq]
  generalize (lg_sl ([.int q]) ++ List.replicate (1 - (lg_sl ([.int q])).length) Slot.unset).toArray = ls at hl ⊢
  have hl : lv_has ls 1 [(0, .int q)] := hl
  refine lv_iload_n hx hb dX0_isPlace_0 rfl (lv_at hl 0 rfl) ?_
  refine lv_if_lt (tgt := 14) hx hb dX0_isPlace_1 (by decide) (fun c1 => ?_) (fun c1 => ?_)
  · skip
    refine lv_iconst (v := nI 0) hx hb dX0_isPlace_14 (by decide +kernel) ?_
    exact W.zret (ty := .boolean) hx hb hr rfl (fun t ht hW => ⟨_, rfl, (by unfold cf_ip; (first | rw [if_pos c1] | rw [if_neg c1] | rw [if_neg (cf_nlt c1)] | rw [if_pos (cf_nle c1)] | skip)), ht⟩) (fun q h => by cases h) dX0_isPlace_15
  · skip
    refine lv_iload_n hx hb dX0_isPlace_4 rfl (lv_at hl 0 rfl) ?_
    refine lv_bipush (v := nI 64) hx hb dX0_isPlace_5 (by decide +kernel) ?_
    refine lv_icmp_ge (tgt := 14) hx hb dX0_isPlace_7 (by decide) (fun c7 => ?_) (fun c7 => ?_)
    · skip
      refine lv_iconst (v := nI 0) hx hb dX0_isPlace_14 (by decide +kernel) ?_
      exact W.zret (ty := .boolean) hx hb hr rfl (fun t ht hW => ⟨_, rfl, (by unfold cf_ip; (first | rw [if_pos c1] | rw [if_neg c1] | rw [if_neg (cf_nlt c1)] | rw [if_pos (cf_nle c1)] | skip); (first | rw [if_pos c7] | rw [if_neg c7] | rw [if_neg (cf_nlt c7)] | rw [if_pos (cf_nle c7)] | skip)), ht⟩) (fun q h => by cases h) dX0_isPlace_15
    · skip
      refine lv_iconst (v := nI 1) hx hb dX0_isPlace_10 (by decide +kernel) ?_
      refine lv_goto (tgt := 15) hx hb dX0_isPlace_11 (by decide) ?_
      exact W.zret (ty := .boolean) hx hb hr rfl (fun t ht hW => ⟨_, rfl, (by unfold cf_ip; (first | rw [if_pos c1] | rw [if_neg c1] | rw [if_neg (cf_nlt c1)] | rw [if_pos (cf_nle c1)] | skip); (first | rw [if_pos c7] | rw [if_neg c7] | rw [if_neg (cf_nlt c7)] | rw [if_pos (cf_nle c7)] | skip)), ht⟩) (fun q h => by cases h) dX0_isPlace_15
set_option maxHeartbeats 4000000 in
set_option maxRecDepth 100000 in
/-- X0_blockStart -/
theorem kX0_blockStart (l : Launch) (x z : Nat) : Met l yX0_blockStart wsX0_blockStart ({ frames := 0, cells := 0, slots := 0, locals := 0 }) (va_Pc [.int (nI x), .int (nI z)] (fun _ => True)) (vp_Si (fun r : Int32 => r = nI (64 * (8 * z + x)))) 0 0 (fun _ => False) := by
  refine Met.ofW (cc := cX0_blockStart) (maxL := 2) (ret := (some .int)) (by decide) rfl ?_
  intro p e s m args below meth c s₁ B hml hv
  obtain ⟨rfl, -⟩ := hv
  have hx := B.exec
  have hb := B.bytes
  have hr := B.returns
  have hts := atoms_spec (ws := wsX0_blockStart) B.pre
  have hown : s.vm.findClass RX0 = some m.cls := findClass_of_methodNamed B.named
  have hlocks := B.notSynchronized
  have hl := lv_entry ([.int (nI x), .int (nI z)]) (n := 2) (Nat.le_of_ble_eq_true rfl)
  rw [lg_entry_eq]
  generalize (lg_sl ([.int (nI x), .int (nI z)]) ++ List.replicate (2 - (lg_sl ([.int (nI x), .int (nI z)])).length) Slot.unset).toArray = ls at hl ⊢
  have hl : lv_has ls 2 [(0, .int (nI x)), (1, .int (nI z))] := hl
  refine lv_bipush (v := nI 64) hx hb dX0_blockStart_0 (by decide +kernel) ?_
  refine lv_bipush (v := nI 8) hx hb dX0_blockStart_2 (by decide +kernel) ?_
  refine lv_iload_n hx hb dX0_blockStart_4 rfl (lv_at hl 1 rfl) ?_
  refine lv_imul hx hb dX0_blockStart_5 ?_
  refine cf_top (pk_mul _ _) ?_
  refine lv_iload_n hx hb dX0_blockStart_6 rfl (lv_at hl 0 rfl) ?_
  refine lv_iadd hx hb dX0_blockStart_7 ?_
  refine cf_top (nI_add _ _) ?_
  refine lv_imul hx hb dX0_blockStart_8 ?_
  refine cf_top (pk_mul _ _) ?_
  exact W.iret hx hb hr (fun t ht hW => ⟨_, rfl, rfl, ht⟩) (fun q h => by cases h) dX0_blockStart_9
set_option maxHeartbeats 4000000 in
set_option maxRecDepth 100000 in
/-- X0_isBlock -/
theorem kX0_isBlock (l : Launch) (dC : Nat → ClassId) (dI : Nat → Nat → Nat) (h0 a1 a2 : Nat) (cA cB : ClassId) (f g : Nat → Int32) (w h kw kh : Nat) (bx bz : Int32) : Met l yX0_isBlock wsX0_isBlock ({ frames := 0, cells := 0, slots := 0, locals := 0 }) (va_Pc [.ref h0, .int bx, .int bz] (fun U => va_P (dC, dI) vwCm [(h0, .inr (0, [.ref a1, .ref a2, .int (nI w), .int (nI h), .int (nI kw), .int (nI kh)])), (a1, .inl (cA, 4096, .inl f)), (a2, .inl (cB, 4096, .inl g))] U.heap ∧ va_K (dC, dI) vwCm [(cA, .int), (cB, .int)] U)) (vp_Si (fun r : Int32 => r = cf_ib w h bx bz)) 0 0 (fun _ => False) := by
  refine Met.ofW (cc := cX0_isBlock) (maxL := 3) (ret := (some .boolean)) (by decide) rfl ?_
  intro p e s m args below meth c s₁ B hml hv
  obtain ⟨rfl, hP, hK⟩ := hv
  have hx := B.exec
  have hb := B.bytes
  have hr := B.returns
  have hts := atoms_spec (ws := wsX0_isBlock) B.pre
  have hown : s.vm.findClass RX0 = some m.cls := findClass_of_methodNamed B.named
  have hlocks := B.notSynchronized
  have hl := lv_entry ([.ref h0, .int bx, .int bz]) (n := 3) (Nat.le_of_ble_eq_true rfl)
  rw [lg_entry_eq]
  generalize (lg_sl ([.ref h0, .int bx, .int bz]) ++ List.replicate (3 - (lg_sl ([.ref h0, .int bx, .int bz])).length) Slot.unset).toArray = ls at hl ⊢
  have hl : lv_has ls 3 [(0, .ref h0), (1, .int bx), (2, .int bz)] := hl
  refine lv_iload_n hx hb dX0_isBlock_0 rfl (lv_at hl 1 rfl) ?_
  refine lv_if_lt (tgt := 28) hx hb dX0_isBlock_1 (by decide) (fun c1 => ?_) (fun c1 => ?_)
  · skip
    refine lv_iconst (v := nI 0) hx hb dX0_isBlock_28 (by decide +kernel) ?_
    exact W.zret (ty := .boolean) hx hb hr rfl (fun t ht hW => ⟨_, rfl, (by unfold cf_ib; (first | rw [if_pos c1] | rw [if_neg c1] | rw [if_neg (cf_nlt c1)] | rw [if_pos (cf_nle c1)] | skip)), ht⟩) (fun q h => by cases h) dX0_isBlock_29
  · skip
    refine lv_iload_n hx hb dX0_isBlock_4 rfl (lv_at hl 1 rfl) ?_
    refine lv_aload_n hx hb dX0_isBlock_5 rfl (lv_at hl 0 rfl) ?_
    refine va_get (D := (dC, dI)) (ci := 0) (v := .int (nI w)) (C := RX0) (T := TX0) (N := 6) hx hb hts (by decide +kernel) hown hK hP 0 rfl rfl 2 (by decide) (hts (.fieldLink RX0 13 "CoefTurns" "width" "I") (by decide +kernel)) (fun _ h9 => h9) rfl dX0_isBlock_6 ?_
    refine lv_icmp_ge (tgt := 28) hx hb dX0_isBlock_9 (by decide) (fun c9 => ?_) (fun c9 => ?_)
    · skip
      refine lv_iconst (v := nI 0) hx hb dX0_isBlock_28 (by decide +kernel) ?_
      exact W.zret (ty := .boolean) hx hb hr rfl (fun t ht hW => ⟨_, rfl, (by unfold cf_ib; (first | rw [if_pos c1] | rw [if_neg c1] | rw [if_neg (cf_nlt c1)] | rw [if_pos (cf_nle c1)] | skip); (first | rw [if_pos c9] | rw [if_neg c9] | rw [if_neg (cf_nlt c9)] | rw [if_pos (cf_nle c9)] | skip)), ht⟩) (fun q h => by cases h) dX0_isBlock_29
    · skip
      refine lv_iload_n hx hb dX0_isBlock_12 rfl (lv_at hl 2 rfl) ?_
      refine lv_if_lt (tgt := 28) hx hb dX0_isBlock_13 (by decide) (fun c13 => ?_) (fun c13 => ?_)
      · skip
        refine lv_iconst (v := nI 0) hx hb dX0_isBlock_28 (by decide +kernel) ?_
        exact W.zret (ty := .boolean) hx hb hr rfl (fun t ht hW => ⟨_, rfl, (by unfold cf_ib; (first | rw [if_pos c1] | rw [if_neg c1] | rw [if_neg (cf_nlt c1)] | rw [if_pos (cf_nle c1)] | skip); (first | rw [if_pos c9] | rw [if_neg c9] | rw [if_neg (cf_nlt c9)] | rw [if_pos (cf_nle c9)] | skip); (first | rw [if_pos c13] | rw [if_neg c13] | rw [if_neg (cf_nlt c13)] | rw [if_pos (cf_nle c13)] | skip)), ht⟩) (fun q h => by cases h) dX0_isBlock_29
      · skip
        refine lv_iload_n hx hb dX0_isBlock_16 rfl (lv_at hl 2 rfl) ?_
        refine lv_aload_n hx hb dX0_isBlock_17 rfl (lv_at hl 0 rfl) ?_
        refine va_get (D := (dC, dI)) (ci := 0) (v := .int (nI h)) (C := RX0) (T := TX0) (N := 6) hx hb hts (by decide +kernel) hown hK hP 0 rfl rfl 3 (by decide) (hts (.fieldLink RX0 17 "CoefTurns" "height" "I") (by decide +kernel)) (fun _ h9 => h9) rfl dX0_isBlock_18 ?_
        refine lv_icmp_ge (tgt := 28) hx hb dX0_isBlock_21 (by decide) (fun c21 => ?_) (fun c21 => ?_)
        · skip
          refine lv_iconst (v := nI 0) hx hb dX0_isBlock_28 (by decide +kernel) ?_
          exact W.zret (ty := .boolean) hx hb hr rfl (fun t ht hW => ⟨_, rfl, (by unfold cf_ib; (first | rw [if_pos c1] | rw [if_neg c1] | rw [if_neg (cf_nlt c1)] | rw [if_pos (cf_nle c1)] | skip); (first | rw [if_pos c9] | rw [if_neg c9] | rw [if_neg (cf_nlt c9)] | rw [if_pos (cf_nle c9)] | skip); (first | rw [if_pos c13] | rw [if_neg c13] | rw [if_neg (cf_nlt c13)] | rw [if_pos (cf_nle c13)] | skip); (first | rw [if_pos c21] | rw [if_neg c21] | rw [if_neg (cf_nlt c21)] | rw [if_pos (cf_nle c21)] | skip)), ht⟩) (fun q h => by cases h) dX0_isBlock_29
        · skip
          refine lv_iconst (v := nI 1) hx hb dX0_isBlock_24 (by decide +kernel) ?_
          refine lv_goto (tgt := 29) hx hb dX0_isBlock_25 (by decide) ?_
          exact W.zret (ty := .boolean) hx hb hr rfl (fun t ht hW => ⟨_, rfl, (by unfold cf_ib; (first | rw [if_pos c1] | rw [if_neg c1] | rw [if_neg (cf_nlt c1)] | rw [if_pos (cf_nle c1)] | skip); (first | rw [if_pos c9] | rw [if_neg c9] | rw [if_neg (cf_nlt c9)] | rw [if_pos (cf_nle c9)] | skip); (first | rw [if_pos c13] | rw [if_neg c13] | rw [if_neg (cf_nlt c13)] | rw [if_pos (cf_nle c13)] | skip); (first | rw [if_pos c21] | rw [if_neg c21] | rw [if_neg (cf_nlt c21)] | rw [if_pos (cf_nle c21)] | skip)), ht⟩) (fun q h => by cases h) dX0_isBlock_29
set_option maxHeartbeats 4000000 in
set_option maxRecDepth 100000 in
/-- X0_exchangeCells -/
theorem kX0_exchangeCells (l : Launch) (dC : Nat → ClassId) (dI : Nat → Nat → Nat) (sz : Nat) (h0 a1 a2 : Nat) (cA cB : ClassId) (f g : Nat → Int32) (w h kw kh : Nat) (a b : Nat) (ha : a < 4096) (hb4 : b < 4096) : Met l yX0_exchangeCells wsX0_exchangeCells ({ frames := 0, cells := 0, slots := 0, locals := 0 }) (va_Pc [.ref h0, .int (nI a), .int (nI b)] (fun U => U.heap.size = sz ∧ va_P (dC, dI) vwCm [(h0, .inr (0, [.ref a1, .ref a2, .int (nI w), .int (nI h), .int (nI kw), .int (nI kh)])), (a1, .inl (cA, 4096, .inl f)), (a2, .inl (cB, 4096, .inl g))] U.heap ∧ va_K (dC, dI) vwCm [(cA, .int), (cB, .int)] U ∧ va_D (fun _ => True) [(h0, .inr (0, [.ref a1, .ref a2, .int (nI w), .int (nI h), .int (nI kw), .int (nI kh)])), (a1, .inl (cA, 4096, .inl f)), (a2, .inl (cB, 4096, .inl g))])) (va_Qv (fun u : Nat → Int32 => u = upd (upd f a (f b)) b (f a)) (fun (u : Nat → Int32) (t : State) => va_P (dC, dI) vwCm [(h0, .inr (0, [.ref a1, .ref a2, .int (nI w), .int (nI h), .int (nI kw), .int (nI kh)])), (a1, .inl (cA, 4096, .inl u)), (a2, .inl (cB, 4096, .inl g))] t.heap ∧ va_K (dC, dI) vwCm [(cA, .int), (cB, .int)] t ∧ va_D (va_A [(h0, .inr (0, [.ref a1, .ref a2, .int (nI w), .int (nI h), .int (nI kw), .int (nI kh)])), (a1, .inl (cA, 4096, .inl f)), (a2, .inl (cB, 4096, .inl g))] sz) [(h0, .inr (0, [.ref a1, .ref a2, .int (nI w), .int (nI h), .int (nI kw), .int (nI kh)])), (a1, .inl (cA, 4096, .inl u)), (a2, .inl (cB, 4096, .inl g))]) (va_A [(h0, .inr (0, [.ref a1, .ref a2, .int (nI w), .int (nI h), .int (nI kw), .int (nI kh)])), (a1, .inl (cA, 4096, .inl f)), (a2, .inl (cB, 4096, .inl g))] sz)) 0 0 (va_A [(h0, .inr (0, [.ref a1, .ref a2, .int (nI w), .int (nI h), .int (nI kw), .int (nI kh)])), (a1, .inl (cA, 4096, .inl f)), (a2, .inl (cB, 4096, .inl g))] sz) := by
  refine Met.ofW (cc := cX0_exchangeCells) (maxL := 4) (ret := none) (by decide) rfl ?_
  intro p e s m args below meth c s₁ B hml hv
  obtain ⟨rfl, hsz, hP, hK, hD0⟩ := hv
  have hx := B.exec
  have hb := B.bytes
  have hr := B.returns
  have hts := atoms_spec (ws := wsX0_exchangeCells) B.pre
  have hown : s.vm.findClass RX0 = some m.cls := findClass_of_methodNamed B.named
  have hlocks := B.notSynchronized
  subst hsz
  have hD := hD0.self (sz := s.heap.size)
  generalize hAe : va_A [(h0, .inr (0, [.ref a1, .ref a2, .int (nI w), .int (nI h), .int (nI kw), .int (nI kh)])), (a1, .inl (cA, 4096, .inl f)), (a2, .inl (cB, 4096, .inl g))] s.heap.size = A at hD ⊢
  have hA : ∀ q : Nat, s.heap.size ≤ q → A q := fun q h => by rw [← hAe]; exact Or.inr h
  have hS : va_S A s.heap s.heap [] := va_S.rf
  have hP : va_P (dC, dI) vwCm [(h0, .inr (0, [.ref a1, .ref a2, .int (nI w), .int (nI h), .int (nI kw), .int (nI kh)])), (a1, .inl (cA, 4096, .inl f)), (a2, .inl (cB, 4096, .inl g))] s.heap := hP
  have hl := lv_entry ([.ref h0, .int (nI a), .int (nI b)]) (n := 4) (Nat.le_of_ble_eq_true rfl)
  rw [lg_entry_eq]
  generalize (lg_sl ([.ref h0, .int (nI a), .int (nI b)]) ++ List.replicate (4 - (lg_sl ([.ref h0, .int (nI a), .int (nI b)])).length) Slot.unset).toArray = ls at hl ⊢
  have hl : lv_has ls 4 [(0, .ref h0), (1, .int (nI a)), (2, .int (nI b))] := hl
  refine lv_aload_n hx hb dX0_exchangeCells_0 rfl (lv_at hl 0 rfl) ?_
  refine va_get (D := (dC, dI)) (ci := 0) (v := .ref a1) (C := RX0) (T := TX0) (N := 6) hx hb hts (by decide +kernel) hown hK hP 0 rfl rfl 0 (by decide) (hts (.fieldLink RX0 26 "CoefTurns" "cells" "[I") (by decide +kernel)) (fun _ h9 => h9) rfl dX0_exchangeCells_1 ?_
  refine lv_iload_n hx hb dX0_exchangeCells_4 rfl (lv_at hl 1 rfl) ?_
  refine cf_iald (D := (dC, dI)) hx hb hK hP 1 0 rfl rfl (k := a) (by omega) (by decide) dX0_exchangeCells_5 ?_
  refine lv_istore_n (lv' := [(3, .int (f a)), (0, .ref h0), (1, .int (nI a)), (2, .int (nI b))]) hx hb dX0_exchangeCells_6 rfl hl (by decide) rfl (fun ls hl => ?_)
  refine lv_aload_n hx hb dX0_exchangeCells_7 rfl (lv_at hl 1 rfl) ?_
  refine va_get (D := (dC, dI)) (ci := 0) (v := .ref a1) (C := RX0) (T := TX0) (N := 6) hx hb hts (by decide +kernel) hown hK hP 0 rfl rfl 0 (by decide) (hts (.fieldLink RX0 26 "CoefTurns" "cells" "[I") (by decide +kernel)) (fun _ h9 => h9) rfl dX0_exchangeCells_8 ?_
  refine lv_iload_n hx hb dX0_exchangeCells_11 rfl (lv_at hl 2 rfl) ?_
  refine lv_aload_n hx hb dX0_exchangeCells_12 rfl (lv_at hl 1 rfl) ?_
  refine va_get (D := (dC, dI)) (ci := 0) (v := .ref a1) (C := RX0) (T := TX0) (N := 6) hx hb hts (by decide +kernel) hown hK hP 0 rfl rfl 0 (by decide) (hts (.fieldLink RX0 26 "CoefTurns" "cells" "[I") (by decide +kernel)) (fun _ h9 => h9) rfl dX0_exchangeCells_13 ?_
  refine lv_iload_n hx hb dX0_exchangeCells_16 rfl (lv_at hl 3 rfl) ?_
  refine cf_iald (D := (dC, dI)) hx hb hK hP 1 0 rfl rfl (k := b) (by omega) (by decide) dX0_exchangeCells_17 ?_
  refine cf_iast (D := (dC, dI)) hx hb hK hP hD hS 1 0 rfl rfl (k := a) (by omega) (by decide) dX0_exchangeCells_18 (fun H locs hP hD hS => ?_)
  have hP : va_P (dC, dI) vwCm [(h0, .inr (0, [.ref a1, .ref a2, .int (nI w), .int (nI h), .int (nI kw), .int (nI kh)])), (a1, .inl (cA, 4096, .inl (upd f a (f b)))), (a2, .inl (cB, 4096, .inl g))] H := hP
  have hD : va_D A [(h0, .inr (0, [.ref a1, .ref a2, .int (nI w), .int (nI h), .int (nI kw), .int (nI kh)])), (a1, .inl (cA, 4096, .inl (upd f a (f b)))), (a2, .inl (cB, 4096, .inl g))] := hD
  refine lv_aload_n hx hb dX0_exchangeCells_19 rfl (lv_at hl 1 rfl) ?_
  refine va_get (D := (dC, dI)) (ci := 0) (v := .ref a1) (C := RX0) (T := TX0) (N := 6) hx hb hts (by decide +kernel) hown hK hP 0 rfl rfl 0 (by decide) (hts (.fieldLink RX0 26 "CoefTurns" "cells" "[I") (by decide +kernel)) (fun _ h9 => h9) rfl dX0_exchangeCells_20 ?_
  refine lv_iload_n hx hb dX0_exchangeCells_23 rfl (lv_at hl 3 rfl) ?_
  refine lv_iload_n hx hb dX0_exchangeCells_24 rfl (lv_at hl 0 rfl) ?_
  refine cf_iast (D := (dC, dI)) hx hb hK hP hD hS 1 0 rfl rfl (k := b) (by omega) (by decide) dX0_exchangeCells_25 (fun H locs hP hD hS => ?_)
  have hP : va_P (dC, dI) vwCm [(h0, .inr (0, [.ref a1, .ref a2, .int (nI w), .int (nI h), .int (nI kw), .int (nI kh)])), (a1, .inl (cA, 4096, .inl (upd (upd f a (f b)) b (f a)))), (a2, .inl (cB, 4096, .inl g))] H := hP
  have hD : va_D A [(h0, .inr (0, [.ref a1, .ref a2, .int (nI w), .int (nI h), .int (nI kw), .int (nI kh)])), (a1, .inl (cA, 4096, .inl (upd (upd f a (f b)) b (f a)))), (a2, .inl (cB, 4096, .inl g))] := hD
  have hP9 := hP.sub (ws' := [(h0, .inr (0, [.ref a1, .ref a2, .int (nI w), .int (nI h), .int (nI kw), .int (nI kh)])), (a1, .inl (cA, 4096, .inl (upd (upd f a (f b)) b (f a)))), (a2, .inl (cB, 4096, .inl g))]) [0, 1, 2] rfl
  have hD9 := hD.sub (ws' := [(h0, .inr (0, [.ref a1, .ref a2, .int (nI w), .int (nI h), .int (nI kw), .int (nI kh)])), (a1, .inl (cA, 4096, .inl (upd (upd f a (f b)) b (f a)))), (a2, .inl (cB, 4096, .inl g))]) [0, 1, 2] (by decide) rfl
  exact W.vret hx hb hr (fun t ht hW => ⟨⟨_, rfl, rfl, by rw [ht]; exact hP9, va_K.moved hW.alike hK, hD9⟩, hS.F ht⟩) hS.2.2 dX0_exchangeCells_26
set_option maxHeartbeats 4000000 in
set_option maxRecDepth 100000 in
/-- X0_exchangeBlocks -/
theorem kX0_exchangeBlocks (l : Launch) (dC : Nat → ClassId) (dI : Nat → Nat → Nat) (sz : Nat) (h0 a1 a2 : Nat) (cA cB : ClassId) (f g : Nat → Int32) (w h kw kh : Nat) (i j : Nat) (hi : i < 64) (hj : j < 64) : Met l yX0_exchangeBlocks wsX0_exchangeBlocks ({ frames := 1, cells := 0, slots := 0, locals := 23 }) (va_Pc [.ref h0, .int (nI (64 * i)), .int (nI (64 * j))] (fun U => U.heap.size = sz ∧ va_P (dC, dI) vwCm [(h0, .inr (0, [.ref a1, .ref a2, .int (nI w), .int (nI h), .int (nI kw), .int (nI kh)])), (a1, .inl (cA, 4096, .inl f)), (a2, .inl (cB, 4096, .inl g))] U.heap ∧ va_K (dC, dI) vwCm [(cA, .int), (cB, .int)] U ∧ va_D (fun _ => True) [(h0, .inr (0, [.ref a1, .ref a2, .int (nI w), .int (nI h), .int (nI kw), .int (nI kh)])), (a1, .inl (cA, 4096, .inl f)), (a2, .inl (cB, 4096, .inl g))])) (va_Qv (fun u : Nat → Int32 => cf_xB f u i j) (fun (u : Nat → Int32) (t : State) => va_P (dC, dI) vwCm [(h0, .inr (0, [.ref a1, .ref a2, .int (nI w), .int (nI h), .int (nI kw), .int (nI kh)])), (a1, .inl (cA, 4096, .inl u)), (a2, .inl (cB, 4096, .inl g))] t.heap ∧ va_K (dC, dI) vwCm [(cA, .int), (cB, .int)] t ∧ va_D (va_A [(h0, .inr (0, [.ref a1, .ref a2, .int (nI w), .int (nI h), .int (nI kw), .int (nI kh)])), (a1, .inl (cA, 4096, .inl f)), (a2, .inl (cB, 4096, .inl g))] sz) [(h0, .inr (0, [.ref a1, .ref a2, .int (nI w), .int (nI h), .int (nI kw), .int (nI kh)])), (a1, .inl (cA, 4096, .inl u)), (a2, .inl (cB, 4096, .inl g))]) (va_A [(h0, .inr (0, [.ref a1, .ref a2, .int (nI w), .int (nI h), .int (nI kw), .int (nI kh)])), (a1, .inl (cA, 4096, .inl f)), (a2, .inl (cB, 4096, .inl g))] sz)) 0 0 (va_A [(h0, .inr (0, [.ref a1, .ref a2, .int (nI w), .int (nI h), .int (nI kw), .int (nI kh)])), (a1, .inl (cA, 4096, .inl f)), (a2, .inl (cB, 4096, .inl g))] sz) := by
  refine Met.ofW (cc := cX0_exchangeBlocks) (maxL := 4) (ret := none) (by decide) rfl ?_
  intro p e s m args below meth c s₁ B hml hv
  obtain ⟨rfl, hsz, hP, hK, hD0⟩ := hv
  have hx := B.exec
  have hb := B.bytes
  have hr := B.returns
  have hts := atoms_spec (ws := wsX0_exchangeBlocks) B.pre
  have hown : s.vm.findClass RX0 = some m.cls := findClass_of_methodNamed B.named
  have hlocks := B.notSynchronized
  subst hsz
  have hD := hD0.self (sz := s.heap.size)
  generalize hAe : va_A [(h0, .inr (0, [.ref a1, .ref a2, .int (nI w), .int (nI h), .int (nI kw), .int (nI kh)])), (a1, .inl (cA, 4096, .inl f)), (a2, .inl (cB, 4096, .inl g))] s.heap.size = A at hD ⊢
  have hA : ∀ q : Nat, s.heap.size ≤ q → A q := fun q h => by rw [← hAe]; exact Or.inr h
  have hS : va_S A s.heap s.heap [] := va_S.rf
  have hP : va_P (dC, dI) vwCm [(h0, .inr (0, [.ref a1, .ref a2, .int (nI w), .int (nI h), .int (nI kw), .int (nI kh)])), (a1, .inl (cA, 4096, .inl f)), (a2, .inl (cB, 4096, .inl g))] s.heap := hP
  have hl := lv_entry ([.ref h0, .int (nI (64 * i)), .int (nI (64 * j))]) (n := 4) (Nat.le_of_ble_eq_true rfl)
  rw [lg_entry_eq]
  generalize (lg_sl ([.ref h0, .int (nI (64 * i)), .int (nI (64 * j))]) ++ List.replicate (4 - (lg_sl ([.ref h0, .int (nI (64 * i)), .int (nI (64 * j))])).length) Slot.unset).toArray = ls at hl ⊢
  have hl : lv_has ls 4 [(0, .ref h0), (1, .int (nI (64 * i))), (2, .int (nI (64 * j)))] := hl
  refine lv_iconst (v := nI 0) hx hb dX0_exchangeBlocks_0 (by decide +kernel) ?_
  refine lv_istore_n (lv' := [(3, .int (nI 0)), (0, .ref h0), (1, .int (nI (64 * i))), (2, .int (nI (64 * j)))]) hx hb dX0_exchangeBlocks_1 rfl hl (by decide) rfl (fun ls hl => ?_)
  have lp2 : ∀ (n2 : Nat) (p0 : Nat) (fc : Nat → Int32), p0 ≤ 64 → 64 < p0 + n2 → cf_xb f fc i j p0 → ∀ (H : Heap) (locs : List Loc), va_P (dC, dI) vwCm [(h0, .inr (0, [.ref a1, .ref a2, .int (nI w), .int (nI h), .int (nI kw), .int (nI kh)])), (a1, .inl (cA, 4096, .inl fc)), (a2, .inl (cB, 4096, .inl g))] H → va_D A [(h0, .inr (0, [.ref a1, .ref a2, .int (nI w), .int (nI h), .int (nI kw), .int (nI kh)])), (a1, .inl (cA, 4096, .inl fc)), (a2, .inl (cB, 4096, .inl g))] → va_S A s.heap H locs → ∀ (ls : Array Slot), lv_has ls 4 [(0, .ref h0), (1, .int (nI (64 * i))), (2, .int (nI (64 * j))), (3, .int (nI p0))] → W p l e (headSpec wsX0_exchangeBlocks ({ frames := 1, cells := 0, slots := 0, locals := 23 })).room s m ([.ref h0, .int (nI (64 * i)), .int (nI (64 * j))] : List Value).toArray below meth c H locs 0 0 (MQ below (va_Qv (fun u : Nat → Int32 => cf_xB f u i j) (fun (u : Nat → Int32) (t : State) => va_P (dC, dI) vwCm [(h0, .inr (0, [.ref a1, .ref a2, .int (nI w), .int (nI h), .int (nI kw), .int (nI kh)])), (a1, .inl (cA, 4096, .inl u)), (a2, .inl (cB, 4096, .inl g))] t.heap ∧ va_K (dC, dI) vwCm [(cA, .int), (cB, .int)] t ∧ va_D A [(h0, .inr (0, [.ref a1, .ref a2, .int (nI w), .int (nI h), .int (nI kw), .int (nI kh)])), (a1, .inl (cA, 4096, .inl u)), (a2, .inl (cB, 4096, .inl g))]) A) ([.ref h0, .int (nI (64 * i)), .int (nI (64 * j))] : List Value).toArray s 0 0 A) (F0 m 2 ls []) := by
    intro n2
    induction n2 with
    | zero => intro p0 fc h1 h2; exact absurd h2 (by omega)
    | succ n2 ih2 =>
      intro p0 fc hk2 hn2 hI H locs hP hD hS ls hl
      refine lv_iload_n hx hb dX0_exchangeBlocks_2 rfl (lv_at hl 3 rfl) ?_
      refine lv_bipush (v := nI 64) hx hb dX0_exchangeBlocks_3 (by decide +kernel) ?_
      refine lv_icmp_ge (tgt := 24) hx hb dX0_exchangeBlocks_5 (by decide) (fun c5 => ?_) (fun c5 => ?_)
      · skip
        have c5 := (nI_leI (a := 64) (b := p0) (by omega) (by omega)).mp c5
        have hP9 := hP.sub (ws' := [(h0, .inr (0, [.ref a1, .ref a2, .int (nI w), .int (nI h), .int (nI kw), .int (nI kh)])), (a1, .inl (cA, 4096, .inl fc)), (a2, .inl (cB, 4096, .inl g))]) [0, 1, 2] rfl
        have hD9 := hD.sub (ws' := [(h0, .inr (0, [.ref a1, .ref a2, .int (nI w), .int (nI h), .int (nI kw), .int (nI kh)])), (a1, .inl (cA, 4096, .inl fc)), (a2, .inl (cB, 4096, .inl g))]) [0, 1, 2] (by decide) rfl
        exact W.vret hx hb hr (fun t ht hW => ⟨⟨fc, rfl, (by have e : p0 = 64 := (by omega); rw [e] at hI; exact cf_xb_e hI), by rw [ht]; exact hP9, va_K.moved hW.alike hK, hD9⟩, hS.F ht⟩) hS.2.2 dX0_exchangeBlocks_24
      · skip
        have c5 := mt (nI_leI (a := 64) (b := p0) (by omega) (by omega)).mpr c5
        refine lv_aload_n hx hb dX0_exchangeBlocks_8 rfl (lv_at hl 0 rfl) ?_
        refine lv_iload_n hx hb dX0_exchangeBlocks_9 rfl (lv_at hl 1 rfl) ?_
        refine lv_iload_n hx hb dX0_exchangeBlocks_10 rfl (lv_at hl 3 rfl) ?_
        refine lv_iadd hx hb dX0_exchangeBlocks_11 ?_
        refine cf_top (nI_add _ _) ?_
        refine lv_iload_n hx hb dX0_exchangeBlocks_12 rfl (lv_at hl 2 rfl) ?_
        refine lv_iload_n hx hb dX0_exchangeBlocks_13 rfl (lv_at hl 3 rfl) ?_
        refine lv_iadd hx hb dX0_exchangeBlocks_14 ?_
        refine cf_top (nI_add _ _) ?_
        have hPc := hP.sub (ws' := [(h0, .inr (0, [.ref a1, .ref a2, .int (nI w), .int (nI h), .int (nI kw), .int (nI kh)])), (a1, .inl (cA, 4096, .inl fc)), (a2, .inl (cB, 4096, .inl g))]) [0, 1, 2] rfl
        have hKc := hK.sub (tys' := [(cA, .int), (cB, .int)]) [0, 1] rfl
        have hDc := hD.sub (ws' := [(h0, .inr (0, [.ref a1, .ref a2, .int (nI w), .int (nI h), .int (nI kw), .int (nI kh)])), (a1, .inl (cA, 4096, .inl fc)), (a2, .inl (cB, 4096, .inl g))]) [0, 1, 2] (by decide) rfl
        have hFc := va_free (wc := [(h0, .inr (0, [.ref a1, .ref a2, .int (nI w), .int (nI h), .int (nI kw), .int (nI kh)])), (a1, .inl (cA, 4096, .inl fc)), (a2, .inl (cB, 4096, .inl g))]) hD hS hA [0, 1, 2] rfl
        refine va_callv (va_runV (As := [.int (nI (64 * i + p0)), .int (nI (64 * j + p0))]) (rest := []) ⟨hx, hb, hml, hown, hts⟩ (kX0_exchangeCells l dC dI H.size h0 a1 a2 cA cB fc g w h kw kh (64 * i + p0) (64 * j + p0) (by omega) (by omega)) (cwV 2 hts gX0_exchangeBlocks_X0_exchangeCells rfl rfl rfl (by decide +kernel) ⟨Nat.le_of_ble_eq_true rfl, Nat.le_of_ble_eq_true rfl⟩) ⟨fun a U g mk q => by obtain ⟨q0, q1, qP, qK, qD⟩ := q; exact ⟨q0, q1, qP, va_K.moved (u := U) (U := U.calling g mk a) (Vm.Alike.refl U.vm) qK, qD⟩, va_recv hKc hPc (ci := 0) (q0 := 0) rfl rfl, fun U hU hW => ⟨rfl, by rw [hU], by rw [hU]; exact hPc, va_K.moved hW.alike hKc, hDc.weaken (fun _ _ _ _ => trivial)⟩⟩ rfl rfl hl.1 rfl (lv_room (Nat.le_of_ble_eq_true rfl)) dX0_exchangeBlocks_15 ⟨Nat.le_of_ble_eq_true rfl, Nat.le_of_ble_eq_true rfl⟩) hS (fun q _ h => hFc q h) hFc (fun u15 t H1 locs ht hvm w15 hB hz1 hk1 hS => ?_)
        obtain ⟨hP1, -, hD1⟩ := hB
        rw [ht] at hP1
        try dsimp only at w15
        obtain ⟨hP, hD⟩ := va_join (wr := []) (w1 := [(h0, .inr (0, [.ref a1, .ref a2, .int (nI w), .int (nI h), .int (nI kw), .int (nI kh)])), (a1, .inl (cA, 4096, .inl u15)), (a2, .inl (cB, 4096, .inl g))]) hP hD [0, 1, 2] [] rfl rfl (by decide) (by decide) hk1 hFc hP1 hD1
        generalize H1 = H at hP hS ⊢
        have hP : va_P (dC, dI) vwCm [(h0, .inr (0, [.ref a1, .ref a2, .int (nI w), .int (nI h), .int (nI kw), .int (nI kh)])), (a1, .inl (cA, 4096, .inl u15)), (a2, .inl (cB, 4096, .inl g))] H := hP
        have hD : va_D A [(h0, .inr (0, [.ref a1, .ref a2, .int (nI w), .int (nI h), .int (nI kw), .int (nI kh)])), (a1, .inl (cA, 4096, .inl u15)), (a2, .inl (cB, 4096, .inl g))] := hD
        refine lv_iinc (v := nI (p0 + 1)) (lv' := [(3, .int (nI (p0 + 1))), (0, .ref h0), (1, .int (nI (64 * i))), (2, .int (nI (64 * j)))]) hx hb dX0_exchangeBlocks_18 hl (k := 3) rfl (by rw [← nI_add]; rfl) (by decide) rfl (fun ls hl => ?_)
        refine lv_goto (tgt := 2) hx hb dX0_exchangeBlocks_21 (by decide) ?_
        exact ih2 (p0 + 1) u15 (by omega) (by omega) (by rw [w15]; exact cf_xb_s hI (by omega)) H locs hP hD hS ls (lv_sub hl [1, 2, 3, 0] rfl)
  exact lp2 (64 + 1) 0 f (by omega) (by omega) cf_xb_0 s.heap [] hP hD hS ls (lv_sub hl [1, 2, 3, 0] rfl)
