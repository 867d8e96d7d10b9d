set_option maxHeartbeats 4000000 in
set_option maxRecDepth 100000 in
/-- at the loop's head, after j calls -/
theorem law_loop {p : Program} {l : Launch} {e : Env} {s : State} {m : MethodId} {below : List Frame} {meth : Method} {c : Code} {dC : Nat → ClassId} {dI : Nat → Nat → Nat} {h0 a1 a2 : Nat} {cA cB : ClassId} {o b1 b2 b3 : Nat} {cC cD cE : ClassId} {q3 : Nat} {cJ : ClassId} {b L sa1 sa2 sa3 : Nat} {xs : Nat → Int32} (htr : l.stackTraces = false) (C0 : lw_At p s m meth c b L xs) (hL : L ≤ 2562) (hK : va_K (dC, dI) vwCm [(cA, .int), (cB, .int), (cC, .int), (cD, .int), (cE, .int), (cJ, .long)] s) (hXf : cf_Xf sa1 sa2 sa3 s) (hNc : va_Nc "java/lang/IllegalArgumentException" "java/lang/IndexOutOfBoundsException" s) (hZf : cf_Zf (fun q : Nat => s.heap.size ≤ q) s s.heap) :
    ∀ (n j : Nat), j ≤ 512 → 512 < j + n → lw_K p l e s m below meth c dC dI h0 a1 a2 cA cB o b1 b2 b3 cC cD cE q3 cJ b 43 (2 + 5 * j) (8 + j) (20495 + 6 * j) := by
  obtain ⟨hx, hb, hr, hml, hown, hts, hX, hbl, hlocks, hgv⟩ := id C0
  have hbA : ¬ (fun q : Nat => s.heap.size ≤ q) b := Nat.not_le.mpr hbl
  intro n
  induction n with
  | zero =>
    intro j h1 h2
    exact absurd h2 (by omega)
  | succ n ih =>
    intro j hj hn f g f2 g2 md th fo w h kw kh H locs ls hok hP hD hS hl
    refine lv_iload hx hb dL_law_43 (lv_at hl 4 rfl) ?_
    refine lv_aload_n hx hb dL_law_45 rfl (lv_at hl 0 rfl) ?_
    refine va_slen hx hb hX hbl hbA hS dL_law_46 ?_
    refine cf_top (show Int32.ofNat L = nI L from rfl) ?_
    refine lv_iconst (v := nI 5) hx hb dL_law_47 (by decide +kernel) ?_
    refine lv_isub hx hb dL_law_48 ?_
    refine lv_icmp_gt (tgt := 637) hx hb dL_law_49 (by decide) (fun c49 => ?_) (fun c49 => ?_)
    · refine lv_iconst (v := 1) hx hb dL_law_637 (by decide) ?_
      refine va_forget (fun q hq => hS.2.2 q hq) ?_
      refine W.widen (k := 1035) (n := 28705) (by omega) (by omega) ?_
      exact lw_ret hx hb hr hlocks dL_law_638
    · have hi : 2 + 5 * j + 5 ≤ L := by
        have h9 : ¬ (nI L - nI 5).toInt < (nI (2 + 5 * j)).toInt := fun a => c49 (Int32.lt_iff_toInt_lt.mpr a)
        rw [pk_sub_toInt (by omega) (by omega), nI_toInt (by omega)] at h9
        omega
      have kk : lw_K p l e s m below meth c dC dI h0 a1 a2 cA cB o b1 b2 b3 cC cD cE q3 cJ b 631 (2 + 5 * j) (8 + j + 1) (20495 + 6 * j + 6) := by
        intro f g f2 g2 md th fo w h kw kh H locs ls hok hP hD hS hl
        refine lv_iinc (v := nI (2 + 5 * (j + 1))) (lv' := [(4, .int (nI (2 + 5 * (j + 1)))), (0, .ref b), (1, .ref h0), (2, .ref o), (3, .ref q3)]) hx hb dL_law_631 hl (k := 4) rfl (by rw [show 2 + 5 * (j + 1) = (2 + 5 * j) + 5 by omega]; exact nI_add (2 + 5 * j) 5) (by decide) rfl (fun ls hl => ?_)
        refine lv_goto (tgt := 43) hx hb dL_law_634 (by decide) ?_
        refine W.cs (show 8 + j + 1 = 8 + (j + 1) by omega) (show 20495 + 6 * j + 6 = 20495 + 6 * (j + 1) by omega) ?_
        exact ih (j + 1) (by omega) (by omega) f g f2 g2 md th fo w h kw kh H locs ls hok hP hD hS (lv_sub hl [1, 2, 3, 4, 0] rfl)
      refine lv_aload_n hx hb dL_law_52 rfl (lv_at hl 0 rfl) ?_
      refine lv_iload hx hb dL_law_53 (lv_at hl 4 rfl) ?_
      refine va_sld hx hb hX hbl hbA hS (vp_in_nI (by omega) (by omega)) dL_law_55 ?_
      refine lv_bipush (v := nI 15) hx hb dL_law_56 (by decide +kernel) ?_
      refine lv_iand hx hb dL_law_58 ?_
      obtain ⟨t, ht, et⟩ := pk_andE (xs (nI (2 + 5 * j)).toNatClampNeg) (m := nI 15) 4 (by decide +kernel)
      refine cf_top et ?_
      have ht : t < 16 := ht
      rcases (show t = 0 ∨ t = 1 ∨ t = 2 ∨ t = 3 ∨ t = 4 ∨ t = 5 ∨ t = 6 ∨ t = 7 ∨ t = 8 ∨ t = 9 ∨ t = 10 ∨ t = 11 ∨ t = 12 ∨ t = 13 ∨ t = 14 ∨ t = 15 by omega) with rfl | rfl | rfl | rfl | rfl | rfl | rfl | rfl | rfl | rfl | rfl | rfl | rfl | rfl | rfl | rfl
      · refine lv_tableIn (off := 73) (tgt := 132) hx hb dL_law_59 (by decide +kernel) (by decide +kernel) (by decide +kernel) (by decide) ?_
        exact lc_0 htr C0 hL hi (by omega) (by omega) hK hXf hNc hZf kk f g f2 g2 md th fo w h kw kh H locs ls hok hP hD hS hl
      · refine lv_tableIn (off := 145) (tgt := 204) hx hb dL_law_59 (by decide +kernel) (by decide +kernel) (by decide +kernel) (by decide) ?_
        exact lc_1 htr C0 hL hi (by omega) (by omega) hK hXf hNc hZf kk f g f2 g2 md th fo w h kw kh H locs ls hok hP hD hS hl
      · refine lv_tableIn (off := 168) (tgt := 227) hx hb dL_law_59 (by decide +kernel) (by decide +kernel) (by decide +kernel) (by decide) ?_
        exact lc_2 htr C0 hL hi (by omega) (by omega) hK hXf hNc hZf kk f g f2 g2 md th fo w h kw kh H locs ls hok hP hD hS hl
      · refine lv_tableIn (off := 179) (tgt := 238) hx hb dL_law_59 (by decide +kernel) (by decide +kernel) (by decide +kernel) (by decide) ?_
        exact lc_3 htr C0 hL hi (by omega) (by omega) hK hXf hNc hZf kk f g f2 g2 md th fo w h kw kh H locs ls hok hP hD hS hl
      · refine lv_tableIn (off := 190) (tgt := 249) hx hb dL_law_59 (by decide +kernel) (by decide +kernel) (by decide +kernel) (by decide) ?_
        exact lc_4 htr C0 hL hi (by omega) (by omega) hK hXf hNc hZf kk f g f2 g2 md th fo w h kw kh H locs ls hok hP hD hS hl
      · refine lv_tableIn (off := 201) (tgt := 260) hx hb dL_law_59 (by decide +kernel) (by decide +kernel) (by decide +kernel) (by decide) ?_
        exact lc_5 htr C0 hL hi (by omega) (by omega) hK hXf hNc hZf kk f g f2 g2 md th fo w h kw kh H locs ls hok hP hD hS hl
      · refine lv_tableIn (off := 224) (tgt := 283) hx hb dL_law_59 (by decide +kernel) (by decide +kernel) (by decide +kernel) (by decide) ?_
        exact lc_6 htr C0 hL hi (by omega) (by omega) hK hXf hNc hZf kk f g f2 g2 md th fo w h kw kh H locs ls hok hP hD hS hl
      · refine lv_tableIn (off := 285) (tgt := 344) hx hb dL_law_59 (by decide +kernel) (by decide +kernel) (by decide +kernel) (by decide) ?_
        exact lc_7 htr C0 hL hi (by omega) (by omega) hK hXf hNc hZf kk f g f2 g2 md th fo w h kw kh H locs ls hok hP hD hS hl
      · refine lv_tableIn (off := 346) (tgt := 405) hx hb dL_law_59 (by decide +kernel) (by decide +kernel) (by decide +kernel) (by decide) ?_
        exact lc_8 htr C0 hL hi (by omega) (by omega) hK hXf hNc hZf kk f g f2 g2 md th fo w h kw kh H locs ls hok hP hD hS hl
      · refine lv_tableIn (off := 357) (tgt := 416) hx hb dL_law_59 (by decide +kernel) (by decide +kernel) (by decide +kernel) (by decide) ?_
        exact lc_9 htr C0 hL hi (by omega) (by omega) hK hXf hNc hZf kk f g f2 g2 md th fo w h kw kh H locs ls hok hP hD hS hl
      · refine lv_tableIn (off := 368) (tgt := 427) hx hb dL_law_59 (by decide +kernel) (by decide +kernel) (by decide +kernel) (by decide) ?_
        exact lc_10 htr C0 hL hi (by omega) (by omega) hK hXf hNc hZf kk f g f2 g2 md th fo w h kw kh H locs ls hok hP hD hS hl
      · refine lv_tableIn (off := 381) (tgt := 440) hx hb dL_law_59 (by decide +kernel) (by decide +kernel) (by decide +kernel) (by decide) ?_
        exact lc_11 htr C0 hL hi (by omega) (by omega) hK hXf hNc hZf kk f g f2 g2 md th fo w h kw kh H locs ls hok hP hD hS hl
      · refine lv_tableIn (off := 430) (tgt := 489) hx hb dL_law_59 (by decide +kernel) (by decide +kernel) (by decide +kernel) (by decide) ?_
        exact lc_12 htr C0 hL hi (by omega) (by omega) hK hXf hNc hZf kk f g f2 g2 md th fo w h kw kh H locs ls hok hP hD hS hl
      · refine lv_tableIn (off := 492) (tgt := 551) hx hb dL_law_59 (by decide +kernel) (by decide +kernel) (by decide +kernel) (by decide) ?_
        exact lc_13 htr C0 hL hi (by omega) (by omega) hK hXf hNc hZf kk f g f2 g2 md th fo w h kw kh H locs ls hok hP hD hS hl
      · refine lv_tableIn (off := 547) (tgt := 606) hx hb dL_law_59 (by decide +kernel) (by decide +kernel) (by decide +kernel) (by decide) ?_
        exact lc_14 htr C0 hL hi (by omega) (by omega) hK hXf hNc hZf kk f g f2 g2 md th fo w h kw kh H locs ls hok hP hD hS hl
      · refine lv_tableOut (tgt := 631) hx hb dL_law_59 (by decide +kernel) (by decide) ?_
        refine W.widen (k := 8 + j + 1) (n := 20495 + 6 * j + 6) (by omega) (by omega) ?_
        exact kk f g f2 g2 md th fo w h kw kh H locs ls hok hP hD hS hl
