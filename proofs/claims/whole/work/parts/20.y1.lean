set_option maxHeartbeats 4000000 in
set_option maxRecDepth 100000 in
/-- Y1_near -/
theorem kY1_near (l : Launch) (b : Int32) : Met l yY1_near wsY1_near ({ frames := 0, cells := 0, slots := 0, locals := 0 }) (va_Pc [.int b] (fun _ => True)) (vp_Si (fun r : Int32 => r = cf_near b)) 0 0 (fun _ => False) := by
  refine Met.ofW (cc := cY1_near) (maxL := 1) (ret := (some .int)) (by decide) rfl ?_
  intro p e s m args below meth c s₁ B hml hv
  obtain ⟨rfl, -⟩ := hv
  have hx := B.exec
  have hb := B.bytes
  have hr := B.returns
  have hts := atoms_spec (ws := wsY1_near) B.pre
  have hown : s.vm.findClass RY1 = some m.cls := findClass_of_methodNamed B.named
  have hlocks := B.notSynchronized
  have hl := lv_entry ([.int b]) (n := 1) (Nat.le_of_ble_eq_true rfl)
  rw [lg_entry_eq]
  generalize (lg_sl ([.int b]) ++ List.replicate (1 - (lg_sl ([.int b])).length) Slot.unset).toArray = ls at hl ⊢
  have hl : lv_has ls 1 [(0, .int b)] := hl
  refine lv_iload_n hx hb dY1_near_0 rfl (lv_at hl 0 rfl) ?_
  refine lv_iconst (v := nI 1) hx hb dY1_near_1 (by decide +kernel) ?_
  refine lv_icmp_ge (tgt := 9) hx hb dY1_near_2 (by decide) (fun c2 => ?_) (fun c2 => ?_)
  · skip
    refine lv_iload_n hx hb dY1_near_9 rfl (lv_at hl 0 rfl) ?_
    refine lv_bipush (v := nI 8) hx hb dY1_near_10 (by decide +kernel) ?_
    refine lv_icmp_le (tgt := 20) hx hb dY1_near_12 (by decide) (fun c12 => ?_) (fun c12 => ?_)
    · skip
      refine lv_iload_n hx hb dY1_near_20 rfl (lv_at hl 0 rfl) ?_
      exact W.iret hx hb hr (fun t ht hW => ⟨_, rfl, (by unfold cf_near; (first | rw [if_neg (cf_nlt c2)] | rw [if_pos (cf_nle c2)]); (first | rw [if_neg (cf_nlt c12)] | rw [if_pos (cf_nle c12)])), ht⟩) (fun q h => by cases h) dY1_near_21
    · skip
      refine lv_bipush (v := nI 8) hx hb dY1_near_15 (by decide +kernel) ?_
      refine lv_goto (tgt := 21) hx hb dY1_near_17 (by decide) ?_
      exact W.iret hx hb hr (fun t ht hW => ⟨_, rfl, (by unfold cf_near; (first | rw [if_neg (cf_nlt c2)] | rw [if_pos (cf_nle c2)]); (first | rw [if_neg (cf_nlt c12)] | rw [if_pos (cf_nle c12)])), ht⟩) (fun q h => by cases h) dY1_near_21
  · skip
    refine lv_iconst (v := nI 1) hx hb dY1_near_5 (by decide +kernel) ?_
    refine lv_goto (tgt := 21) hx hb dY1_near_6 (by decide) ?_
    exact W.iret hx hb hr (fun t ht hW => ⟨_, rfl, (by unfold cf_near; (first | rw [if_neg (cf_nlt c2)] | rw [if_pos (cf_nle c2)])), ht⟩) (fun q h => by cases h) dY1_near_21
set_option maxHeartbeats 4000000 in
set_option maxRecDepth 100000 in
/-- Y1_isPlace -/
theorem kY1_isPlace (l : Launch) (q : Int32) : Met l yY1_isPlace wsY1_isPlace ({ frames := 0, cells := 0, slots := 0, locals := 0 }) (va_Pc [.int q] (fun _ => True)) (vp_Si (fun r : Int32 => r = cf_ip q)) 0 0 (fun _ => False) := by
  refine Met.ofW (cc := cY1_isPlace) (maxL := 1) (ret := (some .boolean)) (by decide) rfl ?_
  intro p e s m args below meth c s₁ B hml hv
  obtain ⟨rfl, -⟩ := hv
  have hx := B.exec
  have hb := B.bytes
  have hr := B.returns
  have hts := atoms_spec (ws := wsY1_isPlace) B.pre
  have hown : s.vm.findClass RY1 = some m.cls := findClass_of_methodNamed B.named
  have hlocks := B.notSynchronized
  have hl := lv_entry ([.int q]) (n := 1) (Nat.le_of_ble_eq_true rfl)
  rw [lg_entry_eq]
  generalize (lg_sl ([.int q]) ++ List.replicate (1 - (lg_sl ([.int q])).length) Slot.unset).toArray = ls at hl ⊢
  have hl : lv_has ls 1 [(0, .int q)] := hl
  refine lv_iload_n hx hb dY1_isPlace_0 rfl (lv_at hl 0 rfl) ?_
  refine lv_if_lt (tgt := 14) hx hb dY1_isPlace_1 (by decide) (fun c1 => ?_) (fun c1 => ?_)
  · skip
    refine lv_iconst (v := nI 0) hx hb dY1_isPlace_14 (by decide +kernel) ?_
    exact W.zret (ty := .boolean) hx hb hr rfl (fun t ht hW => ⟨_, rfl, (by unfold cf_ip; (first | rw [if_pos c1] | rw [if_neg c1] | rw [if_neg (cf_nlt c1)] | rw [if_pos (cf_nle c1)] | skip)), ht⟩) (fun q h => by cases h) dY1_isPlace_15
  · skip
    refine lv_iload_n hx hb dY1_isPlace_4 rfl (lv_at hl 0 rfl) ?_
    refine lv_bipush (v := nI 64) hx hb dY1_isPlace_5 (by decide +kernel) ?_
    refine lv_icmp_ge (tgt := 14) hx hb dY1_isPlace_7 (by decide) (fun c7 => ?_) (fun c7 => ?_)
    · skip
      refine lv_iconst (v := nI 0) hx hb dY1_isPlace_14 (by decide +kernel) ?_
      exact W.zret (ty := .boolean) hx hb hr rfl (fun t ht hW => ⟨_, rfl, (by unfold cf_ip; (first | rw [if_pos c1] | rw [if_neg c1] | rw [if_neg (cf_nlt c1)] | rw [if_pos (cf_nle c1)] | skip); (first | rw [if_pos c7] | rw [if_neg c7] | rw [if_neg (cf_nlt c7)] | rw [if_pos (cf_nle c7)] | skip)), ht⟩) (fun q h => by cases h) dY1_isPlace_15
    · skip
      refine lv_iconst (v := nI 1) hx hb dY1_isPlace_10 (by decide +kernel) ?_
      refine lv_goto (tgt := 15) hx hb dY1_isPlace_11 (by decide) ?_
      exact W.zret (ty := .boolean) hx hb hr rfl (fun t ht hW => ⟨_, rfl, (by unfold cf_ip; (first | rw [if_pos c1] | rw [if_neg c1] | rw [if_neg (cf_nlt c1)] | rw [if_pos (cf_nle c1)] | skip); (first | rw [if_pos c7] | rw [if_neg c7] | rw [if_neg (cf_nlt c7)] | rw [if_pos (cf_nle c7)] | skip)), ht⟩) (fun q h => by cases h) dY1_isPlace_15
set_option maxHeartbeats 4000000 in
set_option maxRecDepth 100000 in
/-- Y1_block -/
theorem kY1_block (l : Launch) (x z : Nat) : Met l yY1_block wsY1_block ({ frames := 0, cells := 0, slots := 0, locals := 0 }) (va_Pc [.int (nI x), .int (nI z)] (fun _ => True)) (vp_Si (fun r : Int32 => r = nI (64 * (8 * z + x)))) 0 0 (fun _ => False) := by
  refine Met.ofW (cc := cY1_block) (maxL := 2) (ret := (some .int)) (by decide) rfl ?_
  intro p e s m args below meth c s₁ B hml hv
  obtain ⟨rfl, -⟩ := hv
  have hx := B.exec
  have hb := B.bytes
  have hr := B.returns
  have hts := atoms_spec (ws := wsY1_block) B.pre
  have hown : s.vm.findClass RY1 = some m.cls := findClass_of_methodNamed B.named
  have hlocks := B.notSynchronized
  have hl := lv_entry ([.int (nI x), .int (nI z)]) (n := 2) (Nat.le_of_ble_eq_true rfl)
  rw [lg_entry_eq]
  generalize (lg_sl ([.int (nI x), .int (nI z)]) ++ List.replicate (2 - (lg_sl ([.int (nI x), .int (nI z)])).length) Slot.unset).toArray = ls at hl ⊢
  have hl : lv_has ls 2 [(0, .int (nI x)), (1, .int (nI z))] := hl
  refine lv_bipush (v := nI 64) hx hb dY1_block_0 (by decide +kernel) ?_
  refine lv_bipush (v := nI 8) hx hb dY1_block_2 (by decide +kernel) ?_
  refine lv_iload_n hx hb dY1_block_4 rfl (lv_at hl 1 rfl) ?_
  refine lv_imul hx hb dY1_block_5 ?_
  refine cf_top (pk_mul _ _) ?_
  refine lv_iload_n hx hb dY1_block_6 rfl (lv_at hl 0 rfl) ?_
  refine lv_iadd hx hb dY1_block_7 ?_
  refine cf_top (nI_add _ _) ?_
  refine lv_imul hx hb dY1_block_8 ?_
  refine cf_top (pk_mul _ _) ?_
  exact W.iret hx hb hr (fun t ht hW => ⟨_, rfl, rfl, ht⟩) (fun q h => by cases h) dY1_block_9
set_option maxHeartbeats 4000000 in
set_option maxRecDepth 100000 in
/-- Y1_isBlock -/
theorem kY1_isBlock (l : Launch) (dC : Nat → ClassId) (dI : Nat → Nat → Nat) (o b1 b2 b3 : Nat) (cC cD cE : ClassId) (f g md : Nat → Int32) (th : Int32) (w h kw kh : Nat) (bx bz : Int32) : Met l yY1_isBlock wsY1_isBlock ({ frames := 0, cells := 0, slots := 0, locals := 0 }) (va_Pc [.ref o, .int bx, .int bz] (fun U => va_P (dC, dI) vwCm [(o, .inr (1, [.int th, .int (nI w), .int (nI h), .int (nI kw), .int (nI kh), .ref b1, .ref b2, .ref b3])), (b1, .inl (cC, 4096, .inl f)), (b2, .inl (cD, 4096, .inl g)), (b3, .inl (cE, 4096, .inl md))] U.heap ∧ va_K (dC, dI) vwCm [(cC, .int), (cD, .int), (cE, .int)] U)) (vp_Si (fun r : Int32 => r = cf_ib w h bx bz)) 0 0 (fun _ => False) := by
  refine Met.ofW (cc := cY1_isBlock) (maxL := 3) (ret := (some .boolean)) (by decide) rfl ?_
  intro p e s m args below meth c s₁ B hml hv
  obtain ⟨rfl, hP, hK⟩ := hv
  have hx := B.exec
  have hb := B.bytes
  have hr := B.returns
  have hts := atoms_spec (ws := wsY1_isBlock) B.pre
  have hown : s.vm.findClass RY1 = some m.cls := findClass_of_methodNamed B.named
  have hlocks := B.notSynchronized
  have hl := lv_entry ([.ref o, .int bx, .int bz]) (n := 3) (Nat.le_of_ble_eq_true rfl)
  rw [lg_entry_eq]
  generalize (lg_sl ([.ref o, .int bx, .int bz]) ++ List.replicate (3 - (lg_sl ([.ref o, .int bx, .int bz])).length) Slot.unset).toArray = ls at hl ⊢
  have hl : lv_has ls 3 [(0, .ref o), (1, .int bx), (2, .int bz)] := hl
  refine lv_iload_n hx hb dY1_isBlock_0 rfl (lv_at hl 1 rfl) ?_
  refine lv_if_lt (tgt := 28) hx hb dY1_isBlock_1 (by decide) (fun c1 => ?_) (fun c1 => ?_)
  · skip
    refine lv_iconst (v := nI 0) hx hb dY1_isBlock_28 (by decide +kernel) ?_
    exact W.zret (ty := .boolean) hx hb hr rfl (fun t ht hW => ⟨_, rfl, (by unfold cf_ib; (first | rw [if_pos c1] | rw [if_neg c1] | rw [if_neg (cf_nlt c1)] | rw [if_pos (cf_nle c1)] | skip)), ht⟩) (fun q h => by cases h) dY1_isBlock_29
  · skip
    refine lv_iload_n hx hb dY1_isBlock_4 rfl (lv_at hl 1 rfl) ?_
    refine lv_aload_n hx hb dY1_isBlock_5 rfl (lv_at hl 0 rfl) ?_
    refine va_get (D := (dC, dI)) (ci := 1) (v := .int (nI w)) (C := RY1) (T := TY1) (N := 8) hx hb hts (by decide +kernel) hown hK hP 0 rfl rfl 1 (by decide) (hts (.fieldLink RY1 23 "CoefTurnsModel" "w" "I") (by decide +kernel)) (fun _ h9 => h9) rfl dY1_isBlock_6 ?_
    refine lv_icmp_ge (tgt := 28) hx hb dY1_isBlock_9 (by decide) (fun c9 => ?_) (fun c9 => ?_)
    · skip
      refine lv_iconst (v := nI 0) hx hb dY1_isBlock_28 (by decide +kernel) ?_
      exact W.zret (ty := .boolean) hx hb hr rfl (fun t ht hW => ⟨_, rfl, (by unfold cf_ib; (first | rw [if_pos c1] | rw [if_neg c1] | rw [if_neg (cf_nlt c1)] | rw [if_pos (cf_nle c1)] | skip); (first | rw [if_pos c9] | rw [if_neg c9] | rw [if_neg (cf_nlt c9)] | rw [if_pos (cf_nle c9)] | skip)), ht⟩) (fun q h => by cases h) dY1_isBlock_29
    · skip
      refine lv_iload_n hx hb dY1_isBlock_12 rfl (lv_at hl 2 rfl) ?_
      refine lv_if_lt (tgt := 28) hx hb dY1_isBlock_13 (by decide) (fun c13 => ?_) (fun c13 => ?_)
      · skip
        refine lv_iconst (v := nI 0) hx hb dY1_isBlock_28 (by decide +kernel) ?_
        exact W.zret (ty := .boolean) hx hb hr rfl (fun t ht hW => ⟨_, rfl, (by unfold cf_ib; (first | rw [if_pos c1] | rw [if_neg c1] | rw [if_neg (cf_nlt c1)] | rw [if_pos (cf_nle c1)] | skip); (first | rw [if_pos c9] | rw [if_neg c9] | rw [if_neg (cf_nlt c9)] | rw [if_pos (cf_nle c9)] | skip); (first | rw [if_pos c13] | rw [if_neg c13] | rw [if_neg (cf_nlt c13)] | rw [if_pos (cf_nle c13)] | skip)), ht⟩) (fun q h => by cases h) dY1_isBlock_29
      · skip
        refine lv_iload_n hx hb dY1_isBlock_16 rfl (lv_at hl 2 rfl) ?_
        refine lv_aload_n hx hb dY1_isBlock_17 rfl (lv_at hl 0 rfl) ?_
        refine va_get (D := (dC, dI)) (ci := 1) (v := .int (nI h)) (C := RY1) (T := TY1) (N := 8) hx hb hts (by decide +kernel) hown hK hP 0 rfl rfl 2 (by decide) (hts (.fieldLink RY1 27 "CoefTurnsModel" "h" "I") (by decide +kernel)) (fun _ h9 => h9) rfl dY1_isBlock_18 ?_
        refine lv_icmp_ge (tgt := 28) hx hb dY1_isBlock_21 (by decide) (fun c21 => ?_) (fun c21 => ?_)
        · skip
          refine lv_iconst (v := nI 0) hx hb dY1_isBlock_28 (by decide +kernel) ?_
          exact W.zret (ty := .boolean) hx hb hr rfl (fun t ht hW => ⟨_, rfl, (by unfold cf_ib; (first | rw [if_pos c1] | rw [if_neg c1] | rw [if_neg (cf_nlt c1)] | rw [if_pos (cf_nle c1)] | skip); (first | rw [if_pos c9] | rw [if_neg c9] | rw [if_neg (cf_nlt c9)] | rw [if_pos (cf_nle c9)] | skip); (first | rw [if_pos c13] | rw [if_neg c13] | rw [if_neg (cf_nlt c13)] | rw [if_pos (cf_nle c13)] | skip); (first | rw [if_pos c21] | rw [if_neg c21] | rw [if_neg (cf_nlt c21)] | rw [if_pos (cf_nle c21)] | skip)), ht⟩) (fun q h => by cases h) dY1_isBlock_29
        · skip
          refine lv_iconst (v := nI 1) hx hb dY1_isBlock_24 (by decide +kernel) ?_
          refine lv_goto (tgt := 29) hx hb dY1_isBlock_25 (by decide) ?_
          exact W.zret (ty := .boolean) hx hb hr rfl (fun t ht hW => ⟨_, rfl, (by unfold cf_ib; (first | rw [if_pos c1] | rw [if_neg c1] | rw [if_neg (cf_nlt c1)] | rw [if_pos (cf_nle c1)] | skip); (first | rw [if_pos c9] | rw [if_neg c9] | rw [if_neg (cf_nlt c9)] | rw [if_pos (cf_nle c9)] | skip); (first | rw [if_pos c13] | rw [if_neg c13] | rw [if_neg (cf_nlt c13)] | rw [if_pos (cf_nle c13)] | skip); (first | rw [if_pos c21] | rw [if_neg c21] | rw [if_neg (cf_nlt c21)] | rw [if_pos (cf_nle c21)] | skip)), ht⟩) (fun q h => by cases h) dY1_isBlock_29
set_option maxHeartbeats 4000000 in
set_option maxRecDepth 100000 in
/-- Y1_thrown -/
theorem kY1_thrown (l : Launch) (dC : Nat → ClassId) (dI : Nat → Nat → Nat) (o b1 b2 b3 : Nat) (cC cD cE : ClassId) (f g md : Nat → Int32) (th : Int32) (w h kw kh : Nat) : Met l yY1_thrown wsY1_thrown ({ frames := 0, cells := 0, slots := 0, locals := 0 }) (va_Pc [.ref o] (fun U => va_P (dC, dI) vwCm [(o, .inr (1, [.int th, .int (nI w), .int (nI h), .int (nI kw), .int (nI kh), .ref b1, .ref b2, .ref b3])), (b1, .inl (cC, 4096, .inl f)), (b2, .inl (cD, 4096, .inl g)), (b3, .inl (cE, 4096, .inl md))] U.heap ∧ va_K (dC, dI) vwCm [(cC, .int), (cD, .int), (cE, .int)] U)) (vp_Si (fun r : Int32 => r = th)) 0 0 (fun _ => False) := by
  refine Met.ofW (cc := cY1_thrown) (maxL := 1) (ret := (some .int)) (by decide) rfl ?_
  intro p e s m args below meth c s₁ B hml hv
  obtain ⟨rfl, hP, hK⟩ := hv
  have hx := B.exec
  have hb := B.bytes
  have hr := B.returns
  have hts := atoms_spec (ws := wsY1_thrown) B.pre
  have hown : s.vm.findClass RY1 = some m.cls := findClass_of_methodNamed B.named
  have hlocks := B.notSynchronized
  have hl := lv_entry ([.ref o]) (n := 1) (Nat.le_of_ble_eq_true rfl)
  rw [lg_entry_eq]
  generalize (lg_sl ([.ref o]) ++ List.replicate (1 - (lg_sl ([.ref o])).length) Slot.unset).toArray = ls at hl ⊢
  have hl : lv_has ls 1 [(0, .ref o)] := hl
  refine lv_aload_n hx hb dY1_thrown_0 rfl (lv_at hl 0 rfl) ?_
  refine va_get (D := (dC, dI)) (ci := 1) (v := .int th) (C := RY1) (T := TY1) (N := 8) hx hb hts (by decide +kernel) hown hK hP 0 rfl rfl 0 (by decide) (hts (.fieldLink RY1 36 "CoefTurnsModel" "thrown" "I") (by decide +kernel)) (fun _ h9 => h9) rfl dY1_thrown_1 ?_
  exact W.iret hx hb hr (fun t ht hW => ⟨_, rfl, rfl, ht⟩) (fun q h => by cases h) dY1_thrown_4
set_option maxHeartbeats 4000000 in
set_option maxRecDepth 100000 in
/-- Y1_become -/
theorem kY1_become (l : Launch) (dC : Nat → ClassId) (dI : Nat → Nat → Nat) (sz : Nat) (o b1 b2 b3 : Nat) (cC cD cE : ClassId) (f g md : Nat → Int32) (th : Int32) (w h kw kh : Nat) (w2 h2 : Nat) : Met l yY1_become wsY1_become ({ frames := 0, cells := 0, slots := 0, locals := 0 }) (va_Pc [.ref o, .int (nI w2), .int (nI h2)] (fun U => U.heap.size = sz ∧ va_P (dC, dI) vwCm [(o, .inr (1, [.int th, .int (nI w), .int (nI h), .int (nI kw), .int (nI kh), .ref b1, .ref b2, .ref b3])), (b1, .inl (cC, 4096, .inl f)), (b2, .inl (cD, 4096, .inl g)), (b3, .inl (cE, 4096, .inl md))] U.heap ∧ va_K (dC, dI) vwCm [(cC, .int), (cD, .int), (cE, .int)] U ∧ va_D (fun _ => True) [(o, .inr (1, [.int th, .int (nI w), .int (nI h), .int (nI kw), .int (nI kh), .ref b1, .ref b2, .ref b3])), (b1, .inl (cC, 4096, .inl f)), (b2, .inl (cD, 4096, .inl g)), (b3, .inl (cE, 4096, .inl md))])) (va_Qv (fun u : Nat → Int32 => cf_cp 4096 md u) (fun (u : Nat → Int32) (t : State) => va_P (dC, dI) vwCm [(o, .inr (1, [.int th, .int (nI w2), .int (nI h2), .int (nI kw), .int (nI kh), .ref b1, .ref b2, .ref b3])), (b1, .inl (cC, 4096, .inl u)), (b2, .inl (cD, 4096, .inl g)), (b3, .inl (cE, 4096, .inl md))] t.heap ∧ va_K (dC, dI) vwCm [(cC, .int), (cD, .int), (cE, .int)] t ∧ va_D (va_A [(o, .inr (1, [.int th, .int (nI w), .int (nI h), .int (nI kw), .int (nI kh), .ref b1, .ref b2, .ref b3])), (b1, .inl (cC, 4096, .inl f)), (b2, .inl (cD, 4096, .inl g)), (b3, .inl (cE, 4096, .inl md))] sz) [(o, .inr (1, [.int th, .int (nI w2), .int (nI h2), .int (nI kw), .int (nI kh), .ref b1, .ref b2, .ref b3])), (b1, .inl (cC, 4096, .inl u)), (b2, .inl (cD, 4096, .inl g)), (b3, .inl (cE, 4096, .inl md))]) (va_A [(o, .inr (1, [.int th, .int (nI w), .int (nI h), .int (nI kw), .int (nI kh), .ref b1, .ref b2, .ref b3])), (b1, .inl (cC, 4096, .inl f)), (b2, .inl (cD, 4096, .inl g)), (b3, .inl (cE, 4096, .inl md))] sz)) 0 0 (va_A [(o, .inr (1, [.int th, .int (nI w), .int (nI h), .int (nI kw), .int (nI kh), .ref b1, .ref b2, .ref b3])), (b1, .inl (cC, 4096, .inl f)), (b2, .inl (cD, 4096, .inl g)), (b3, .inl (cE, 4096, .inl md))] sz) := by
  refine Met.ofW (cc := cY1_become) (maxL := 4) (ret := none) (by decide) rfl ?_
  intro p e s m args below meth c s₁ B hml hv
  obtain ⟨rfl, hsz, hP, hK, hD0⟩ := hv
  have hx := B.exec
  have hb := B.bytes
  have hr := B.returns
  have hts := atoms_spec (ws := wsY1_become) B.pre
  have hown : s.vm.findClass RY1 = some m.cls := findClass_of_methodNamed B.named
  have hlocks := B.notSynchronized
  subst hsz
  have hD := hD0.self (sz := s.heap.size)
  generalize hAe : va_A [(o, .inr (1, [.int th, .int (nI w), .int (nI h), .int (nI kw), .int (nI kh), .ref b1, .ref b2, .ref b3])), (b1, .inl (cC, 4096, .inl f)), (b2, .inl (cD, 4096, .inl g)), (b3, .inl (cE, 4096, .inl md))] s.heap.size = A at hD ⊢
  have hA : ∀ q : Nat, s.heap.size ≤ q → A q := fun q h => by rw [← hAe]; exact Or.inr h
  have hS : va_S A s.heap s.heap [] := va_S.rf
  have hP : va_P (dC, dI) vwCm [(o, .inr (1, [.int th, .int (nI w), .int (nI h), .int (nI kw), .int (nI kh), .ref b1, .ref b2, .ref b3])), (b1, .inl (cC, 4096, .inl f)), (b2, .inl (cD, 4096, .inl g)), (b3, .inl (cE, 4096, .inl md))] s.heap := hP
  have hl := lv_entry ([.ref o, .int (nI w2), .int (nI h2)]) (n := 4) (Nat.le_of_ble_eq_true rfl)
  rw [lg_entry_eq]
  generalize (lg_sl ([.ref o, .int (nI w2), .int (nI h2)]) ++ List.replicate (4 - (lg_sl ([.ref o, .int (nI w2), .int (nI h2)])).length) Slot.unset).toArray = ls at hl ⊢
  have hl : lv_has ls 4 [(0, .ref o), (1, .int (nI w2)), (2, .int (nI h2))] := hl
  refine lv_aload_n hx hb dY1_become_0 rfl (lv_at hl 0 rfl) ?_
  refine lv_iload_n hx hb dY1_become_1 rfl (lv_at hl 1 rfl) ?_
  refine va_put (D := (dC, dI)) (ci := 1) (v := .int (nI w2)) (ty := .int) (C := RY1) (T := TY1) (N := 8) hx hb hts (by decide +kernel) tyY1 tyY1_ok nmY1 hown hK hP hD hS 0 rfl rfl 1 (by decide) (hts (.fieldLink RY1 23 "CoefTurnsModel" "w" "I") (by decide +kernel)) (fun _ h9 => h9) rfl (by decide +kernel) rfl rfl (Nat.le_of_ble_eq_true rfl) dY1_become_2 (fun H locs hP hD hS => ?_)
  have hP : va_P (dC, dI) vwCm [(o, .inr (1, [.int th, .int (nI w2), .int (nI h), .int (nI kw), .int (nI kh), .ref b1, .ref b2, .ref b3])), (b1, .inl (cC, 4096, .inl f)), (b2, .inl (cD, 4096, .inl g)), (b3, .inl (cE, 4096, .inl md))] H := hP
  have hD : va_D A [(o, .inr (1, [.int th, .int (nI w2), .int (nI h), .int (nI kw), .int (nI kh), .ref b1, .ref b2, .ref b3])), (b1, .inl (cC, 4096, .inl f)), (b2, .inl (cD, 4096, .inl g)), (b3, .inl (cE, 4096, .inl md))] := hD
  refine lv_aload_n hx hb dY1_become_5 rfl (lv_at hl 0 rfl) ?_
  refine lv_iload_n hx hb dY1_become_6 rfl (lv_at hl 2 rfl) ?_
  refine va_put (D := (dC, dI)) (ci := 1) (v := .int (nI h2)) (ty := .int) (C := RY1) (T := TY1) (N := 8) hx hb hts (by decide +kernel) tyY1 tyY1_ok nmY1 hown hK hP hD hS 0 rfl rfl 2 (by decide) (hts (.fieldLink RY1 27 "CoefTurnsModel" "h" "I") (by decide +kernel)) (fun _ h9 => h9) rfl (by decide +kernel) rfl rfl (Nat.le_of_ble_eq_true rfl) dY1_become_7 (fun H locs hP hD hS => ?_)
  have hP : va_P (dC, dI) vwCm [(o, .inr (1, [.int th, .int (nI w2), .int (nI h2), .int (nI kw), .int (nI kh), .ref b1, .ref b2, .ref b3])), (b1, .inl (cC, 4096, .inl f)), (b2, .inl (cD, 4096, .inl g)), (b3, .inl (cE, 4096, .inl md))] H := hP
  have hD : va_D A [(o, .inr (1, [.int th, .int (nI w2), .int (nI h2), .int (nI kw), .int (nI kh), .ref b1, .ref b2, .ref b3])), (b1, .inl (cC, 4096, .inl f)), (b2, .inl (cD, 4096, .inl g)), (b3, .inl (cE, 4096, .inl md))] := hD
  refine lv_iconst (v := nI 0) hx hb dY1_become_10 (by decide +kernel) ?_
  refine lv_istore_n (lv' := [(3, .int (nI 0)), (0, .ref o), (1, .int (nI w2)), (2, .int (nI h2))]) hx hb dY1_become_11 rfl hl (by decide) rfl (fun ls hl => ?_)
  have lp12 : ∀ (n12 : Nat) (k : Nat) (fc : Nat → Int32), k ≤ 4096 → 4096 < k + n12 → cf_cp k md fc → ∀ (H : Heap) (locs : List Loc), va_P (dC, dI) vwCm [(o, .inr (1, [.int th, .int (nI w2), .int (nI h2), .int (nI kw), .int (nI kh), .ref b1, .ref b2, .ref b3])), (b1, .inl (cC, 4096, .inl fc)), (b2, .inl (cD, 4096, .inl g)), (b3, .inl (cE, 4096, .inl md))] H → va_D A [(o, .inr (1, [.int th, .int (nI w2), .int (nI h2), .int (nI kw), .int (nI kh), .ref b1, .ref b2, .ref b3])), (b1, .inl (cC, 4096, .inl fc)), (b2, .inl (cD, 4096, .inl g)), (b3, .inl (cE, 4096, .inl md))] → va_S A s.heap H locs → ∀ (ls : Array Slot), lv_has ls 4 [(0, .ref o), (1, .int (nI w2)), (2, .int (nI h2)), (3, .int (nI k))] → W p l e (headSpec wsY1_become ({ frames := 0, cells := 0, slots := 0, locals := 0 })).room s m ([.ref o, .int (nI w2), .int (nI h2)] : List Value).toArray below meth c H locs 0 0 (MQ below (va_Qv (fun u : Nat → Int32 => cf_cp 4096 md u) (fun (u : Nat → Int32) (t : State) => va_P (dC, dI) vwCm [(o, .inr (1, [.int th, .int (nI w2), .int (nI h2), .int (nI kw), .int (nI kh), .ref b1, .ref b2, .ref b3])), (b1, .inl (cC, 4096, .inl u)), (b2, .inl (cD, 4096, .inl g)), (b3, .inl (cE, 4096, .inl md))] t.heap ∧ va_K (dC, dI) vwCm [(cC, .int), (cD, .int), (cE, .int)] t ∧ va_D A [(o, .inr (1, [.int th, .int (nI w2), .int (nI h2), .int (nI kw), .int (nI kh), .ref b1, .ref b2, .ref b3])), (b1, .inl (cC, 4096, .inl u)), (b2, .inl (cD, 4096, .inl g)), (b3, .inl (cE, 4096, .inl md))]) A) ([.ref o, .int (nI w2), .int (nI h2)] : List Value).toArray s 0 0 A) (F0 m 12 ls []) := by
    intro n12
    induction n12 with
    | zero => intro k fc h1 h2; exact absurd h2 (by omega)
    | succ n12 ih12 =>
      intro k fc hk12 hn12 hI H locs hP hD hS ls hl
      refine lv_iload_n hx hb dY1_become_12 rfl (lv_at hl 3 rfl) ?_
      refine lv_sipush (v := nI 4096) hx hb dY1_become_13 (by decide +kernel) ?_
      refine lv_icmp_ge (tgt := 37) hx hb dY1_become_16 (by decide) (fun c16 => ?_) (fun c16 => ?_)
      · skip
        have c16 := (nI_leI (a := 4096) (b := k) (by omega) (by omega)).mp c16
        have hP9 := hP.sub (ws' := [(o, .inr (1, [.int th, .int (nI w2), .int (nI h2), .int (nI kw), .int (nI kh), .ref b1, .ref b2, .ref b3])), (b1, .inl (cC, 4096, .inl fc)), (b2, .inl (cD, 4096, .inl g)), (b3, .inl (cE, 4096, .inl md))]) [0, 1, 2, 3] rfl
        have hD9 := hD.sub (ws' := [(o, .inr (1, [.int th, .int (nI w2), .int (nI h2), .int (nI kw), .int (nI kh), .ref b1, .ref b2, .ref b3])), (b1, .inl (cC, 4096, .inl fc)), (b2, .inl (cD, 4096, .inl g)), (b3, .inl (cE, 4096, .inl md))]) [0, 1, 2, 3] (by decide) rfl
        exact W.vret hx hb hr (fun t ht hW => ⟨⟨fc, rfl, (by have e : k = 4096 := (by omega); rw [e] at hI; exact hI), by rw [ht]; exact hP9, va_K.moved hW.alike hK, hD9⟩, hS.F ht⟩) hS.2.2 dY1_become_37
      · skip
        have c16 := mt (nI_leI (a := 4096) (b := k) (by omega) (by omega)).mpr c16
        refine lv_aload_n hx hb dY1_become_19 rfl (lv_at hl 0 rfl) ?_
        refine va_get (D := (dC, dI)) (ci := 1) (v := .ref b1) (C := RY1) (T := TY1) (N := 8) hx hb hts (by decide +kernel) hown hK hP 0 rfl rfl 5 (by decide) (hts (.fieldLink RY1 7 "CoefTurnsModel" "plane" "[I") (by decide +kernel)) (fun _ h9 => h9) rfl dY1_become_20 ?_
        refine lv_iload_n hx hb dY1_become_23 rfl (lv_at hl 3 rfl) ?_
        refine lv_aload_n hx hb dY1_become_24 rfl (lv_at hl 0 rfl) ?_
        refine va_get (D := (dC, dI)) (ci := 1) (v := .ref b3) (C := RY1) (T := TY1) (N := 8) hx hb hts (by decide +kernel) hown hK hP 0 rfl rfl 7 (by decide) (hts (.fieldLink RY1 16 "CoefTurnsModel" "moved" "[I") (by decide +kernel)) (fun _ h9 => h9) rfl dY1_become_25 ?_
        refine lv_iload_n hx hb dY1_become_28 rfl (lv_at hl 3 rfl) ?_
        refine cf_iald (D := (dC, dI)) hx hb hK hP 3 2 rfl rfl (k := k) (by omega) (by decide) dY1_become_29 ?_
        refine cf_iast (D := (dC, dI)) hx hb hK hP hD hS 1 0 rfl rfl (k := k) (by omega) (by decide) dY1_become_30 (fun H locs hP hD hS => ?_)
        have hP : va_P (dC, dI) vwCm [(o, .inr (1, [.int th, .int (nI w2), .int (nI h2), .int (nI kw), .int (nI kh), .ref b1, .ref b2, .ref b3])), (b1, .inl (cC, 4096, .inl (upd fc k (md k)))), (b2, .inl (cD, 4096, .inl g)), (b3, .inl (cE, 4096, .inl md))] H := hP
        have hD : va_D A [(o, .inr (1, [.int th, .int (nI w2), .int (nI h2), .int (nI kw), .int (nI kh), .ref b1, .ref b2, .ref b3])), (b1, .inl (cC, 4096, .inl (upd fc k (md k)))), (b2, .inl (cD, 4096, .inl g)), (b3, .inl (cE, 4096, .inl md))] := hD
        refine lv_iinc (v := nI (k + 1)) (lv' := [(3, .int (nI (k + 1))), (0, .ref o), (1, .int (nI w2)), (2, .int (nI h2))]) hx hb dY1_become_31 hl (k := 3) rfl (by rw [← nI_add]; rfl) (by decide) rfl (fun ls hl => ?_)
        refine lv_goto (tgt := 12) hx hb dY1_become_34 (by decide) ?_
        exact ih12 (k + 1) (upd fc k (md k)) (by omega) (by omega) (cf_cp_s hI) H locs hP hD hS ls (lv_sub hl [1, 2, 3, 0] rfl)
  exact lp12 (4096 + 1) 0 f (by omega) (by omega) cf_cp_0 H locs hP hD hS ls (lv_sub hl [1, 2, 3, 0] rfl)
set_option maxHeartbeats 4000000 in
set_option maxRecDepth 100000 in
/-- Y1_transposeAll -/
theorem kY1_transposeAll (l : Launch) (dC : Nat → ClassId) (dI : Nat → Nat → Nat) (sz : Nat) (o b1 b2 b3 : Nat) (cC cD cE : ClassId) (f g md : Nat → Int32) (th : Int32) (w h kw kh : Nat) (hw : w ≤ 8) (hh : h ≤ 8) (hw1 : 1 ≤ w) (hh1 : 1 ≤ h) : Met l yY1_transposeAll wsY1_transposeAll ({ frames := 1, cells := 0, slots := 0, locals := 23 }) (va_Pc [.ref o] (fun U => U.heap.size = sz ∧ va_P (dC, dI) vwCm [(o, .inr (1, [.int th, .int (nI w), .int (nI h), .int (nI kw), .int (nI kh), .ref b1, .ref b2, .ref b3])), (b1, .inl (cC, 4096, .inl f)), (b2, .inl (cD, 4096, .inl g)), (b3, .inl (cE, 4096, .inl md))] U.heap ∧ va_K (dC, dI) vwCm [(cC, .int), (cD, .int), (cE, .int)] U ∧ va_D (fun _ => True) [(o, .inr (1, [.int th, .int (nI w), .int (nI h), .int (nI kw), .int (nI kh), .ref b1, .ref b2, .ref b3])), (b1, .inl (cC, 4096, .inl f)), (b2, .inl (cD, 4096, .inl g)), (b3, .inl (cE, 4096, .inl md))])) (va_Qv (fun u : (Nat → Int32) × (Nat → Int32) => cf_Ag h w (cf_V u.1) (cf_tr (cf_V f))) (fun (u : (Nat → Int32) × (Nat → Int32)) (t : State) => va_P (dC, dI) vwCm [(o, .inr (1, [.int th, .int (nI h), .int (nI w), .int (nI kw), .int (nI kh), .ref b1, .ref b2, .ref b3])), (b1, .inl (cC, 4096, .inl u.1)), (b2, .inl (cD, 4096, .inl g)), (b3, .inl (cE, 4096, .inl u.2))] t.heap ∧ va_K (dC, dI) vwCm [(cC, .int), (cD, .int), (cE, .int)] t ∧ va_D (va_A [(o, .inr (1, [.int th, .int (nI w), .int (nI h), .int (nI kw), .int (nI kh), .ref b1, .ref b2, .ref b3])), (b1, .inl (cC, 4096, .inl f)), (b2, .inl (cD, 4096, .inl g)), (b3, .inl (cE, 4096, .inl md))] sz) [(o, .inr (1, [.int th, .int (nI h), .int (nI w), .int (nI kw), .int (nI kh), .ref b1, .ref b2, .ref b3])), (b1, .inl (cC, 4096, .inl u.1)), (b2, .inl (cD, 4096, .inl g)), (b3, .inl (cE, 4096, .inl u.2))]) (va_A [(o, .inr (1, [.int th, .int (nI w), .int (nI h), .int (nI kw), .int (nI kh), .ref b1, .ref b2, .ref b3])), (b1, .inl (cC, 4096, .inl f)), (b2, .inl (cD, 4096, .inl g)), (b3, .inl (cE, 4096, .inl md))] sz)) 0 0 (va_A [(o, .inr (1, [.int th, .int (nI w), .int (nI h), .int (nI kw), .int (nI kh), .ref b1, .ref b2, .ref b3])), (b1, .inl (cC, 4096, .inl f)), (b2, .inl (cD, 4096, .inl g)), (b3, .inl (cE, 4096, .inl md))] sz) := by
  refine Met.ofW (cc := cY1_transposeAll) (maxL := 4) (ret := none) (by decide) rfl ?_
  intro p e s m args below meth c s₁ B hml hv
  obtain ⟨rfl, hsz, hP, hK, hD0⟩ := hv
  have hx := B.exec
  have hb := B.bytes
  have hr := B.returns
  have hts := atoms_spec (ws := wsY1_transposeAll) B.pre
  have hown : s.vm.findClass RY1 = some m.cls := findClass_of_methodNamed B.named
  have hlocks := B.notSynchronized
  subst hsz
  have hD := hD0.self (sz := s.heap.size)
  generalize hAe : va_A [(o, .inr (1, [.int th, .int (nI w), .int (nI h), .int (nI kw), .int (nI kh), .ref b1, .ref b2, .ref b3])), (b1, .inl (cC, 4096, .inl f)), (b2, .inl (cD, 4096, .inl g)), (b3, .inl (cE, 4096, .inl md))] s.heap.size = A at hD ⊢
  have hA : ∀ q : Nat, s.heap.size ≤ q → A q := fun q h => by rw [← hAe]; exact Or.inr h
  have hS : va_S A s.heap s.heap [] := va_S.rf
  have hP : va_P (dC, dI) vwCm [(o, .inr (1, [.int th, .int (nI w), .int (nI h), .int (nI kw), .int (nI kh), .ref b1, .ref b2, .ref b3])), (b1, .inl (cC, 4096, .inl f)), (b2, .inl (cD, 4096, .inl g)), (b3, .inl (cE, 4096, .inl md))] s.heap := hP
  have hl := lv_entry ([.ref o]) (n := 4) (Nat.le_of_ble_eq_true rfl)
  rw [lg_entry_eq]
  generalize (lg_sl ([.ref o]) ++ List.replicate (4 - (lg_sl ([.ref o])).length) Slot.unset).toArray = ls at hl ⊢
  have hl : lv_has ls 4 [(0, .ref o)] := hl
  refine lv_iconst (v := nI 0) hx hb dY1_transposeAll_0 (by decide +kernel) ?_
  refine lv_istore_n (lv' := [(1, .int (nI 0)), (0, .ref o)]) hx hb dY1_transposeAll_1 rfl hl (by decide) rfl (fun ls hl => ?_)
  have lp2 : ∀ (n2 : Nat) (y0 : Nat) (m0 : Nat → Int32), y0 ≤ w → w < y0 + n2 → cf_dn h y0 0 0 m0 (cf_tr (cf_V f)) → ∀ (H : Heap) (locs : List Loc), va_P (dC, dI) vwCm [(o, .inr (1, [.int th, .int (nI w), .int (nI h), .int (nI kw), .int (nI kh), .ref b1, .ref b2, .ref b3])), (b1, .inl (cC, 4096, .inl f)), (b2, .inl (cD, 4096, .inl g)), (b3, .inl (cE, 4096, .inl m0))] H → va_D A [(o, .inr (1, [.int th, .int (nI w), .int (nI h), .int (nI kw), .int (nI kh), .ref b1, .ref b2, .ref b3])), (b1, .inl (cC, 4096, .inl f)), (b2, .inl (cD, 4096, .inl g)), (b3, .inl (cE, 4096, .inl m0))] → va_S A s.heap H locs → ∀ (ls : Array Slot), lv_has ls 4 [(0, .ref o), (1, .int (nI y0))] → W p l e (headSpec wsY1_transposeAll ({ frames := 1, cells := 0, slots := 0, locals := 23 })).room s m ([.ref o] : List Value).toArray below meth c H locs 0 0 (MQ below (va_Qv (fun u : (Nat → Int32) × (Nat → Int32) => cf_Ag h w (cf_V u.1) (cf_tr (cf_V f))) (fun (u : (Nat → Int32) × (Nat → Int32)) (t : State) => va_P (dC, dI) vwCm [(o, .inr (1, [.int th, .int (nI h), .int (nI w), .int (nI kw), .int (nI kh), .ref b1, .ref b2, .ref b3])), (b1, .inl (cC, 4096, .inl u.1)), (b2, .inl (cD, 4096, .inl g)), (b3, .inl (cE, 4096, .inl u.2))] t.heap ∧ va_K (dC, dI) vwCm [(cC, .int), (cD, .int), (cE, .int)] t ∧ va_D A [(o, .inr (1, [.int th, .int (nI h), .int (nI w), .int (nI kw), .int (nI kh), .ref b1, .ref b2, .ref b3])), (b1, .inl (cC, 4096, .inl u.1)), (b2, .inl (cD, 4096, .inl g)), (b3, .inl (cE, 4096, .inl u.2))]) A) ([.ref o] : List Value).toArray s 0 0 A) (F0 m 2 ls []) := by
    intro n2
    induction n2 with
    | zero => intro y0 m0 h1 h2; exact absurd h2 (by omega)
    | succ n2 ih2 =>
      intro y0 m0 hk2 hn2 hI H locs hP hD hS ls hl
      refine lv_iload_n hx hb dY1_transposeAll_2 rfl (lv_at hl 1 rfl) ?_
      refine lv_aload_n hx hb dY1_transposeAll_3 rfl (lv_at hl 0 rfl) ?_
      refine va_get (D := (dC, dI)) (ci := 1) (v := .int (nI w)) (C := RY1) (T := TY1) (N := 8) hx hb hts (by decide +kernel) hown hK hP 0 rfl rfl 1 (by decide) (hts (.fieldLink RY1 23 "CoefTurnsModel" "w" "I") (by decide +kernel)) (fun _ h9 => h9) rfl dY1_transposeAll_4 ?_
      refine lv_icmp_ge (tgt := 81) hx hb dY1_transposeAll_7 (by decide) (fun c7 => ?_) (fun c7 => ?_)
      · skip
        have c7 := (nI_leI (a := w) (b := y0) (by omega) (by omega)).mp c7
        refine lv_aload_n hx hb dY1_transposeAll_81 rfl (lv_at hl 0 rfl) ?_
        refine lv_aload_n hx hb dY1_transposeAll_82 rfl (lv_at hl 0 rfl) ?_
        refine va_get (D := (dC, dI)) (ci := 1) (v := .int (nI h)) (C := RY1) (T := TY1) (N := 8) hx hb hts (by decide +kernel) hown hK hP 0 rfl rfl 2 (by decide) (hts (.fieldLink RY1 27 "CoefTurnsModel" "h" "I") (by decide +kernel)) (fun _ h9 => h9) rfl dY1_transposeAll_83 ?_
        refine lv_aload_n hx hb dY1_transposeAll_86 rfl (lv_at hl 0 rfl) ?_
        refine va_get (D := (dC, dI)) (ci := 1) (v := .int (nI w)) (C := RY1) (T := TY1) (N := 8) hx hb hts (by decide +kernel) hown hK hP 0 rfl rfl 1 (by decide) (hts (.fieldLink RY1 23 "CoefTurnsModel" "w" "I") (by decide +kernel)) (fun _ h9 => h9) rfl dY1_transposeAll_87 ?_
        have hPc := hP.sub (ws' := [(o, .inr (1, [.int th, .int (nI w), .int (nI h), .int (nI kw), .int (nI kh), .ref b1, .ref b2, .ref b3])), (b1, .inl (cC, 4096, .inl f)), (b2, .inl (cD, 4096, .inl g)), (b3, .inl (cE, 4096, .inl m0))]) [0, 1, 2, 3] rfl
        have hKc := hK.sub (tys' := [(cC, .int), (cD, .int), (cE, .int)]) [0, 1, 2] rfl
        have hDc := hD.sub (ws' := [(o, .inr (1, [.int th, .int (nI w), .int (nI h), .int (nI kw), .int (nI kh), .ref b1, .ref b2, .ref b3])), (b1, .inl (cC, 4096, .inl f)), (b2, .inl (cD, 4096, .inl g)), (b3, .inl (cE, 4096, .inl m0))]) [0, 1, 2, 3] (by decide) rfl
        have hFc := va_free (wc := [(o, .inr (1, [.int th, .int (nI w), .int (nI h), .int (nI kw), .int (nI kh), .ref b1, .ref b2, .ref b3])), (b1, .inl (cC, 4096, .inl f)), (b2, .inl (cD, 4096, .inl g)), (b3, .inl (cE, 4096, .inl m0))]) hD hS hA [0, 1, 2, 3] rfl
        refine va_callv (va_runV (As := [.int (nI h), .int (nI w)]) (rest := []) ⟨hx, hb, hml, hown, hts⟩ (kY1_become l dC dI H.size o b1 b2 b3 cC cD cE f g m0 th w h kw kh h w) (cwV 2 hts gY1_transposeAll_Y1_become rfl rfl rfl (by decide +kernel) ⟨Nat.le_of_ble_eq_true rfl, Nat.le_of_ble_eq_true rfl⟩) ⟨fun a U g mk q => by obtain ⟨q0, q1, qP, qK, qD⟩ := q; exact ⟨q0, q1, qP, va_K.moved (u := U) (U := U.calling g mk a) (Vm.Alike.refl U.vm) qK, qD⟩, va_recv hKc hPc (ci := 1) (q0 := 0) rfl rfl, fun U hU hW => ⟨rfl, by rw [hU], by rw [hU]; exact hPc, va_K.moved hW.alike hKc, hDc.weaken (fun _ _ _ _ => trivial)⟩⟩ rfl rfl hl.1 rfl (lv_room (Nat.le_of_ble_eq_true rfl)) dY1_transposeAll_90 ⟨Nat.le_of_ble_eq_true rfl, Nat.le_of_ble_eq_true rfl⟩) hS (fun q _ h => hFc q h) hFc (fun u90 t H1 locs ht hvm w90 hB hz1 hk1 hS => ?_)
        obtain ⟨hP1, -, hD1⟩ := hB
        rw [ht] at hP1
        try dsimp only at w90
        obtain ⟨hP, hD⟩ := va_join (wr := []) (w1 := [(o, .inr (1, [.int th, .int (nI h), .int (nI w), .int (nI kw), .int (nI kh), .ref b1, .ref b2, .ref b3])), (b1, .inl (cC, 4096, .inl u90)), (b2, .inl (cD, 4096, .inl g)), (b3, .inl (cE, 4096, .inl m0))]) hP hD [0, 1, 2, 3] [] rfl rfl (by decide) (by decide) hk1 hFc hP1 hD1
        generalize H1 = H at hP hS ⊢
        have hP : va_P (dC, dI) vwCm [(o, .inr (1, [.int th, .int (nI h), .int (nI w), .int (nI kw), .int (nI kh), .ref b1, .ref b2, .ref b3])), (b1, .inl (cC, 4096, .inl u90)), (b2, .inl (cD, 4096, .inl g)), (b3, .inl (cE, 4096, .inl m0))] H := hP
        have hD : va_D A [(o, .inr (1, [.int th, .int (nI h), .int (nI w), .int (nI kw), .int (nI kh), .ref b1, .ref b2, .ref b3])), (b1, .inl (cC, 4096, .inl u90)), (b2, .inl (cD, 4096, .inl g)), (b3, .inl (cE, 4096, .inl m0))] := hD
        have hP9 := hP.sub (ws' := [(o, .inr (1, [.int th, .int (nI h), .int (nI w), .int (nI kw), .int (nI kh), .ref b1, .ref b2, .ref b3])), (b1, .inl (cC, 4096, .inl u90)), (b2, .inl (cD, 4096, .inl g)), (b3, .inl (cE, 4096, .inl m0))]) [0, 1, 2, 3] rfl
        have hD9 := hD.sub (ws' := [(o, .inr (1, [.int th, .int (nI h), .int (nI w), .int (nI kw), .int (nI kh), .ref b1, .ref b2, .ref b3])), (b1, .inl (cC, 4096, .inl u90)), (b2, .inl (cD, 4096, .inl g)), (b3, .inl (cE, 4096, .inl m0))]) [0, 1, 2, 3] (by decide) rfl
        exact W.vret hx hb hr (fun t ht hW => ⟨⟨(u90, m0), rfl, (by have e : y0 = w := (by omega); rw [e] at hI; exact (cf_cp_ag w90 hh hw).tr (cf_dn_e hI)), by rw [ht]; exact hP9, va_K.moved hW.alike hK, hD9⟩, hS.F ht⟩) hS.2.2 dY1_transposeAll_93
      · skip
        have c7 := mt (nI_leI (a := w) (b := y0) (by omega) (by omega)).mpr c7
        refine lv_iconst (v := nI 0) hx hb dY1_transposeAll_10 (by decide +kernel) ?_
        refine lv_istore_n (lv' := [(2, .int (nI 0)), (0, .ref o), (1, .int (nI y0))]) hx hb dY1_transposeAll_11 rfl hl (by decide) rfl (fun ls hl => ?_)
        have lp12 : ∀ (n12 : Nat) (x0 : Nat) (m1 : Nat → Int32), x0 ≤ h → h < x0 + n12 → cf_dn h y0 x0 0 m1 (cf_tr (cf_V f)) → ∀ (H : Heap) (locs : List Loc), va_P (dC, dI) vwCm [(o, .inr (1, [.int th, .int (nI w), .int (nI h), .int (nI kw), .int (nI kh), .ref b1, .ref b2, .ref b3])), (b1, .inl (cC, 4096, .inl f)), (b2, .inl (cD, 4096, .inl g)), (b3, .inl (cE, 4096, .inl m1))] H → va_D A [(o, .inr (1, [.int th, .int (nI w), .int (nI h), .int (nI kw), .int (nI kh), .ref b1, .ref b2, .ref b3])), (b1, .inl (cC, 4096, .inl f)), (b2, .inl (cD, 4096, .inl g)), (b3, .inl (cE, 4096, .inl m1))] → va_S A s.heap H locs → ∀ (ls : Array Slot), lv_has ls 4 [(0, .ref o), (1, .int (nI y0)), (2, .int (nI x0))] → W p l e (headSpec wsY1_transposeAll ({ frames := 1, cells := 0, slots := 0, locals := 23 })).room s m ([.ref o] : List Value).toArray below meth c H locs 0 0 (MQ below (va_Qv (fun u : (Nat → Int32) × (Nat → Int32) => cf_Ag h w (cf_V u.1) (cf_tr (cf_V f))) (fun (u : (Nat → Int32) × (Nat → Int32)) (t : State) => va_P (dC, dI) vwCm [(o, .inr (1, [.int th, .int (nI h), .int (nI w), .int (nI kw), .int (nI kh), .ref b1, .ref b2, .ref b3])), (b1, .inl (cC, 4096, .inl u.1)), (b2, .inl (cD, 4096, .inl g)), (b3, .inl (cE, 4096, .inl u.2))] t.heap ∧ va_K (dC, dI) vwCm [(cC, .int), (cD, .int), (cE, .int)] t ∧ va_D A [(o, .inr (1, [.int th, .int (nI h), .int (nI w), .int (nI kw), .int (nI kh), .ref b1, .ref b2, .ref b3])), (b1, .inl (cC, 4096, .inl u.1)), (b2, .inl (cD, 4096, .inl g)), (b3, .inl (cE, 4096, .inl u.2))]) A) ([.ref o] : List Value).toArray s 0 0 A) (F0 m 12 ls []) := by
          intro n12
          induction n12 with
          | zero => intro x0 m1 h1 h2; exact absurd h2 (by omega)
          | succ n12 ih12 =>
            intro x0 m1 hk12 hn12 hI1 H locs hP hD hS ls hl
            refine lv_iload_n hx hb dY1_transposeAll_12 rfl (lv_at hl 2 rfl) ?_
            refine lv_aload_n hx hb dY1_transposeAll_13 rfl (lv_at hl 0 rfl) ?_
            refine va_get (D := (dC, dI)) (ci := 1) (v := .int (nI h)) (C := RY1) (T := TY1) (N := 8) hx hb hts (by decide +kernel) hown hK hP 0 rfl rfl 2 (by decide) (hts (.fieldLink RY1 27 "CoefTurnsModel" "h" "I") (by decide +kernel)) (fun _ h9 => h9) rfl dY1_transposeAll_14 ?_
            refine lv_icmp_ge (tgt := 75) hx hb dY1_transposeAll_17 (by decide) (fun c17 => ?_) (fun c17 => ?_)
            · skip
              have c17 := (nI_leI (a := h) (b := x0) (by omega) (by omega)).mp c17
              refine lv_iinc (v := nI (y0 + 1)) (lv' := [(1, .int (nI (y0 + 1))), (0, .ref o), (2, .int (nI x0))]) hx hb dY1_transposeAll_75 hl (k := 1) rfl (by rw [← nI_add]; rfl) (by decide) rfl (fun ls hl => ?_)
              refine lv_goto (tgt := 2) hx hb dY1_transposeAll_78 (by decide) ?_
              exact ih2 (y0 + 1) m1 (by omega) (by omega) (cf_dn_r hI1 (by omega)) H locs hP hD hS ls (lv_sub hl [1, 0] rfl)
            · skip
              have c17 := mt (nI_leI (a := h) (b := x0) (by omega) (by omega)).mpr c17
              refine lv_iconst (v := nI 0) hx hb dY1_transposeAll_20 (by decide +kernel) ?_
              refine lv_istore_n (lv' := [(3, .int (nI 0)), (0, .ref o), (1, .int (nI y0)), (2, .int (nI x0))]) hx hb dY1_transposeAll_21 rfl hl (by decide) rfl (fun ls hl => ?_)
              have lp22 : ∀ (n22 : Nat) (p0 : Nat) (m2 : Nat → Int32), p0 ≤ 64 → 64 < p0 + n22 → cf_dn h y0 x0 p0 m2 (cf_tr (cf_V f)) → ∀ (H : Heap) (locs : List Loc), va_P (dC, dI) vwCm [(o, .inr (1, [.int th, .int (nI w), .int (nI h), .int (nI kw), .int (nI kh), .ref b1, .ref b2, .ref b3])), (b1, .inl (cC, 4096, .inl f)), (b2, .inl (cD, 4096, .inl g)), (b3, .inl (cE, 4096, .inl m2))] H → va_D A [(o, .inr (1, [.int th, .int (nI w), .int (nI h), .int (nI kw), .int (nI kh), .ref b1, .ref b2, .ref b3])), (b1, .inl (cC, 4096, .inl f)), (b2, .inl (cD, 4096, .inl g)), (b3, .inl (cE, 4096, .inl m2))] → va_S A s.heap H locs → ∀ (ls : Array Slot), lv_has ls 4 [(0, .ref o), (1, .int (nI y0)), (2, .int (nI x0)), (3, .int (nI p0))] → W p l e (headSpec wsY1_transposeAll ({ frames := 1, cells := 0, slots := 0, locals := 23 })).room s m ([.ref o] : List Value).toArray below meth c H locs 0 0 (MQ below (va_Qv (fun u : (Nat → Int32) × (Nat → Int32) => cf_Ag h w (cf_V u.1) (cf_tr (cf_V f))) (fun (u : (Nat → Int32) × (Nat → Int32)) (t : State) => va_P (dC, dI) vwCm [(o, .inr (1, [.int th, .int (nI h), .int (nI w), .int (nI kw), .int (nI kh), .ref b1, .ref b2, .ref b3])), (b1, .inl (cC, 4096, .inl u.1)), (b2, .inl (cD, 4096, .inl g)), (b3, .inl (cE, 4096, .inl u.2))] t.heap ∧ va_K (dC, dI) vwCm [(cC, .int), (cD, .int), (cE, .int)] t ∧ va_D A [(o, .inr (1, [.int th, .int (nI h), .int (nI w), .int (nI kw), .int (nI kh), .ref b1, .ref b2, .ref b3])), (b1, .inl (cC, 4096, .inl u.1)), (b2, .inl (cD, 4096, .inl g)), (b3, .inl (cE, 4096, .inl u.2))]) A) ([.ref o] : List Value).toArray s 0 0 A) (F0 m 22 ls []) := by
                intro n22
                induction n22 with
                | zero => intro p0 m2 h1 h2; exact absurd h2 (by omega)
                | succ n22 ih22 =>
                  intro p0 m2 hk22 hn22 hI2 H locs hP hD hS ls hl
                  refine lv_iload_n hx hb dY1_transposeAll_22 rfl (lv_at hl 3 rfl) ?_
                  refine lv_bipush (v := nI 64) hx hb dY1_transposeAll_23 (by decide +kernel) ?_
                  refine lv_icmp_ge (tgt := 69) hx hb dY1_transposeAll_25 (by decide) (fun c25 => ?_) (fun c25 => ?_)
                  · skip
                    have c25 := (nI_leI (a := 64) (b := p0) (by omega) (by omega)).mp c25
                    refine lv_iinc (v := nI (x0 + 1)) (lv' := [(2, .int (nI (x0 + 1))), (0, .ref o), (1, .int (nI y0)), (3, .int (nI p0))]) hx hb dY1_transposeAll_69 hl (k := 2) rfl (by rw [← nI_add]; rfl) (by decide) rfl (fun ls hl => ?_)
                    refine lv_goto (tgt := 12) hx hb dY1_transposeAll_72 (by decide) ?_
                    exact ih12 (x0 + 1) m2 (by omega) (by omega) (cf_dn_b hI2 (by omega)) H locs hP hD hS ls (lv_sub hl [1, 2, 0] rfl)
                  · skip
                    have c25 := mt (nI_leI (a := 64) (b := p0) (by omega) (by omega)).mpr c25
                    refine lv_aload_n hx hb dY1_transposeAll_28 rfl (lv_at hl 0 rfl) ?_
                    refine va_get (D := (dC, dI)) (ci := 1) (v := .ref b3) (C := RY1) (T := TY1) (N := 8) hx hb hts (by decide +kernel) hown hK hP 0 rfl rfl 7 (by decide) (hts (.fieldLink RY1 16 "CoefTurnsModel" "moved" "[I") (by decide +kernel)) (fun _ h9 => h9) rfl dY1_transposeAll_29 ?_
                    refine lv_iload_n hx hb dY1_transposeAll_32 rfl (lv_at hl 2 rfl) ?_
                    refine lv_iload_n hx hb dY1_transposeAll_33 rfl (lv_at hl 1 rfl) ?_
                    refine vp_callSi (W.runS (As := [.int (nI x0), .int (nI y0)]) (rest := [.ref b3]) ⟨hx, hb, hml, hown, hts⟩ (kY1_block l x0 y0) (va_cwS 2 hts gY1_transposeAll_Y1_block rfl rfl rfl (by decide +kernel) ⟨Nat.le_of_ble_eq_true rfl, Nat.le_of_ble_eq_true rfl⟩) ⟨fun a U g mk q => q, fun U hU hW => ⟨rfl, trivial⟩⟩ rfl rfl hl.1 rfl (lv_room (Nat.le_of_ble_eq_true rfl)) dY1_transposeAll_34 ⟨Nat.le_of_ble_eq_true rfl, Nat.le_of_ble_eq_true rfl⟩) (fun r34 w34 => ?_)
                    subst w34
                    refine lv_iload_n hx hb dY1_transposeAll_37 rfl (lv_at hl 3 rfl) ?_
                    refine lv_iadd hx hb dY1_transposeAll_38 ?_
                    refine cf_top (nI_add _ _) ?_
                    refine lv_aload_n hx hb dY1_transposeAll_39 rfl (lv_at hl 0 rfl) ?_
                    refine va_get (D := (dC, dI)) (ci := 1) (v := .ref b1) (C := RY1) (T := TY1) (N := 8) hx hb hts (by decide +kernel) hown hK hP 0 rfl rfl 5 (by decide) (hts (.fieldLink RY1 7 "CoefTurnsModel" "plane" "[I") (by decide +kernel)) (fun _ h9 => h9) rfl dY1_transposeAll_40 ?_
                    refine lv_iload_n hx hb dY1_transposeAll_43 rfl (lv_at hl 1 rfl) ?_
                    refine lv_iload_n hx hb dY1_transposeAll_44 rfl (lv_at hl 2 rfl) ?_
                    refine vp_callSi (W.runS (As := [.int (nI y0), .int (nI x0)]) (rest := [.ref b1, .int (nI (64 * (8 * y0 + x0) + p0)), .ref b3]) ⟨hx, hb, hml, hown, hts⟩ (kY1_block l y0 x0) (va_cwS 2 hts gY1_transposeAll_Y1_block rfl rfl rfl (by decide +kernel) ⟨Nat.le_of_ble_eq_true rfl, Nat.le_of_ble_eq_true rfl⟩) ⟨fun a U g mk q => q, fun U hU hW => ⟨rfl, trivial⟩⟩ rfl rfl hl.1 rfl (lv_room (Nat.le_of_ble_eq_true rfl)) dY1_transposeAll_45 ⟨Nat.le_of_ble_eq_true rfl, Nat.le_of_ble_eq_true rfl⟩) (fun r45 w45 => ?_)
                    subst w45
                    refine lv_bipush (v := nI 8) hx hb dY1_transposeAll_48 (by decide +kernel) ?_
                    refine lv_iload_n hx hb dY1_transposeAll_50 rfl (lv_at hl 3 rfl) ?_
                    refine lv_bipush (v := nI 8) hx hb dY1_transposeAll_51 (by decide +kernel) ?_
                    refine lv_irem hx hb dY1_transposeAll_53 (nI_ne0 (by omega) (by omega)) ?_
                    refine cf_top (pk_rem (by omega) (by omega) (by omega)) ?_
                    refine lv_imul hx hb dY1_transposeAll_54 ?_
                    refine cf_top (pk_mul _ _) ?_
                    refine lv_iadd hx hb dY1_transposeAll_55 ?_
                    refine cf_top (nI_add _ _) ?_
                    refine lv_iload_n hx hb dY1_transposeAll_56 rfl (lv_at hl 3 rfl) ?_
                    refine lv_bipush (v := nI 8) hx hb dY1_transposeAll_57 (by decide +kernel) ?_
                    refine lv_idiv hx hb dY1_transposeAll_59 (nI_ne0 (by omega) (by omega)) ?_
                    refine cf_top (pk_div (by omega) (by omega) (by omega)) ?_
                    refine lv_iadd hx hb dY1_transposeAll_60 ?_
                    refine cf_top (nI_add _ _) ?_
                    refine cf_iald (D := (dC, dI)) hx hb hK hP 1 0 rfl rfl (k := 64 * (8 * x0 + y0) + 8 * (p0 % 8) + p0 / 8) (by omega) (by decide) dY1_transposeAll_61 ?_
                    refine cf_iast (D := (dC, dI)) hx hb hK hP hD hS 3 2 rfl rfl (k := 64 * (8 * y0 + x0) + p0) (by omega) (by decide) dY1_transposeAll_62 (fun H locs hP hD hS => ?_)
                    have hP : va_P (dC, dI) vwCm [(o, .inr (1, [.int th, .int (nI w), .int (nI h), .int (nI kw), .int (nI kh), .ref b1, .ref b2, .ref b3])), (b1, .inl (cC, 4096, .inl f)), (b2, .inl (cD, 4096, .inl g)), (b3, .inl (cE, 4096, .inl (upd m2 (64 * (8 * y0 + x0) + p0) (f (64 * (8 * x0 + y0) + 8 * (p0 % 8) + p0 / 8)))))] H := hP
                    have hD : va_D A [(o, .inr (1, [.int th, .int (nI w), .int (nI h), .int (nI kw), .int (nI kh), .ref b1, .ref b2, .ref b3])), (b1, .inl (cC, 4096, .inl f)), (b2, .inl (cD, 4096, .inl g)), (b3, .inl (cE, 4096, .inl (upd m2 (64 * (8 * y0 + x0) + p0) (f (64 * (8 * x0 + y0) + 8 * (p0 % 8) + p0 / 8)))))] := hD
                    refine lv_iinc (v := nI (p0 + 1)) (lv' := [(3, .int (nI (p0 + 1))), (0, .ref o), (1, .int (nI y0)), (2, .int (nI x0))]) hx hb dY1_transposeAll_63 hl (k := 3) rfl (by rw [← nI_add]; rfl) (by decide) rfl (fun ls hl => ?_)
                    refine lv_goto (tgt := 22) hx hb dY1_transposeAll_66 (by decide) ?_
                    exact ih22 (p0 + 1) (upd m2 (64 * (8 * y0 + x0) + p0) (f (64 * (8 * x0 + y0) + 8 * (p0 % 8) + p0 / 8))) (by omega) (by omega) (cf_dn_s hI2 hh (by omega) (by omega) (show f _ = f _ from congrArg f (by omega))) H locs hP hD hS ls (lv_sub hl [1, 2, 3, 0] rfl)
              exact lp22 (64 + 1) 0 m1 (by omega) (by omega) hI1 H locs hP hD hS ls (lv_sub hl [1, 2, 3, 0] rfl)
        exact lp12 (h + 1) 0 m0 (by omega) (by omega) hI H locs hP hD hS ls (lv_sub hl [1, 2, 0] rfl)
  exact lp2 (w + 1) 0 md (by omega) (by omega) cf_dn_0 s.heap [] hP hD hS ls (lv_sub hl [1, 0] rfl)
