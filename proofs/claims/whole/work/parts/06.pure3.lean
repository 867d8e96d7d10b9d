/-! the arguments' tests, in the words of both classes -/
def cf_near (b : Int32) : Int32 := if b < nI 1 then nI 1 else if nI 8 < b then nI 8 else b
theorem cf_near_c (b : Int32) : (if nI 1 < (if b < nI 8 then b else nI 8) then (if b < nI 8 then b else nI 8) else nI 1) = cf_near b := by
  have e1 : (nI 1).toInt = 1 := nI_toInt (by omega)
  have e8 : (nI 8).toInt = 8 := nI_toInt (by omega)
  unfold cf_near
  by_cases h1 : b < nI 8
  · rw [if_pos h1]
    have h1' := h1
    rw [Int32.lt_iff_toInt_lt, e8] at h1'
    by_cases h2 : nI 1 < b
    · have h2' := h2
      rw [Int32.lt_iff_toInt_lt, e1] at h2'
      rw [if_pos h2, if_neg (by rw [Int32.lt_iff_toInt_lt, e1]; omega), if_neg (by rw [Int32.lt_iff_toInt_lt, e8]; omega)]
    · have h2' := h2
      rw [Int32.lt_iff_toInt_lt, e1] at h2'
      rw [if_neg h2]
      by_cases h3 : b < nI 1
      · rw [if_pos h3]
      · have h3' := h3
        rw [Int32.lt_iff_toInt_lt, e1] at h3'
        rw [if_neg h3, if_neg (by rw [Int32.lt_iff_toInt_lt, e8]; omega)]
        apply Int32.toInt_inj.mp
        omega
  · have h1' := h1
    rw [Int32.lt_iff_toInt_lt, e8] at h1'
    rw [if_neg h1, if_pos (by rw [Int32.lt_iff_toInt_lt, e1, e8]; omega), if_neg (by rw [Int32.lt_iff_toInt_lt, e1]; omega)]
    by_cases h2 : nI 8 < b
    · rw [if_pos h2]
    · have h2' := h2
      rw [Int32.lt_iff_toInt_lt, e8] at h2'
      rw [if_neg h2]
      apply Int32.toInt_inj.mp
      omega
theorem cf_near_n (b : Int32) : ∃ n : Nat, 1 ≤ n ∧ n ≤ 8 ∧ cf_near b = nI n := by
  have e1 : (nI 1).toInt = 1 := nI_toInt (by omega)
  have e8 : (nI 8).toInt = 8 := nI_toInt (by omega)
  unfold cf_near
  by_cases h1 : b < nI 1
  · exact ⟨1, by omega, by omega, by rw [if_pos h1]⟩
  · rw [if_neg h1]
    by_cases h2 : nI 8 < b
    · exact ⟨8, by omega, by omega, by rw [if_pos h2]⟩
    · rw [if_neg h2]
      rw [Int32.lt_iff_toInt_lt, e1] at h1
      rw [Int32.lt_iff_toInt_lt, e8] at h2
      obtain ⟨j, hj, rfl⟩ := nI_of (x := b) (by rw [Int32.lt_iff_toInt_lt, Int32.toInt_zero]; omega)
      rw [nI_toInt hj] at h1 h2
      exact ⟨j, by omega, by omega, rfl⟩
def cf_ip (q : Int32) : Int32 := if q < 0 then nI 0 else if nI 64 ≤ q then nI 0 else nI 1
def cf_ib (w h : Nat) (bx bz : Int32) : Int32 := if bx < 0 then nI 0 else if nI w ≤ bx then nI 0 else if bz < 0 then nI 0 else if nI h ≤ bz then nI 0 else nI 1
theorem cf_in {q : Int32} {n : Nat} (hn : n < 2 ^ 31) (h1 : ¬ q < 0) (h2 : ¬ nI n ≤ q) : ∃ j : Nat, j < n ∧ q = nI j := by
  rcases pk_ix q hn with h | h | h
  · exact absurd h h1
  · exact absurd h h2
  · exact h
theorem cf_ip_1 {q : Int32} (h : ¬ cf_ip q = 0) : ∃ j : Nat, j < 64 ∧ q = nI j := by
  unfold cf_ip at h
  by_cases h1 : q < 0
  · rw [if_pos h1] at h; exact absurd nI_0 h
  · rw [if_neg h1] at h
    by_cases h2 : nI 64 ≤ q
    · rw [if_pos h2] at h; exact absurd nI_0 h
    · exact cf_in (by omega) h1 h2
theorem cf_ib_1 {w h : Nat} (hw : w ≤ 8) (hh : h ≤ 8) {bx bz : Int32} (g : ¬ cf_ib w h bx bz = 0) : ∃ x z : Nat, x < w ∧ z < h ∧ bx = nI x ∧ bz = nI z := by
  unfold cf_ib at g
  by_cases h1 : bx < 0
  · rw [if_pos h1] at g; exact absurd nI_0 g
  · rw [if_neg h1] at g
    by_cases h2 : nI w ≤ bx
    · rw [if_pos h2] at g; exact absurd nI_0 g
    · rw [if_neg h2] at g
      by_cases h3 : bz < 0
      · rw [if_pos h3] at g; exact absurd nI_0 g
      · rw [if_neg h3] at g
        by_cases h4 : nI h ≤ bz
        · rw [if_pos h4] at g; exact absurd nI_0 g
        · obtain ⟨x, hx, ex⟩ := cf_in (by omega) h1 h2
          obtain ⟨z, hz, ez⟩ := cf_in (by omega) h3 h4
          exact ⟨x, z, hx, hz, ex, ez⟩
theorem cf_ib_n {w h x z : Nat} (hw : w ≤ 8) (hh : h ≤ 8) (hx : x < w) (hz : z < h) : cf_ib w h (nI x) (nI z) = nI 1 := by
  unfold cf_ib
  rw [if_neg (nI_pos (by omega)), if_neg (nI_ge hx (by omega)), if_neg (nI_pos (by omega)), if_neg (nI_ge hz (by omega))]
theorem cf_ip_n {q : Nat} (h : q < 64) : cf_ip (nI q) = nI 1 := by
  unfold cf_ip
  rw [if_neg (nI_pos (by omega)), if_neg (nI_ge h (by omega))]
theorem cf_11 : ¬ (nI 1 : Int32) = 0 := nI_ne0 (by omega) (by omega)
theorem cf_00 : (nI 0 : Int32) = 0 := nI_0
theorem cf_maxN {w h : Nat} (hw : w ≤ 8) (hh : h ≤ 8) : ∃ N : Nat, (if nI w < nI h then nI h else nI w) = nI N ∧ w ≤ N ∧ h ≤ N ∧ N ≤ 8 := by
  by_cases g : w < h
  · exact ⟨h, by rw [if_pos ((nI_ltI (by omega) (by omega)).mpr g)], by omega, by omega, hh⟩
  · exact ⟨w, by rw [if_neg (mt (nI_ltI (by omega) (by omega)).mp g)], by omega, by omega, hw⟩
/-- what a seed fills in at place k -/
def cf_fil (seed : Int32) (k : Nat) : Int32 :=
  ((((seed + nI k * nI 40503) * (-1640531535)).toUInt32 >>> ((nI 20).toUInt32 &&& Int32.toUInt32 31)).toInt32 - (((seed + nI k * nI 40503) * (-1640531535)).toUInt32 >>> ((nI 20).toUInt32 &&& Int32.toUInt32 31)).toInt32 / nI 2047 * nI 2047) - nI 1023
/-! linear folds, as the class's loops go -/
def cf_row {S : Type} (st : S → Nat → S) (y n : Nat) (a : S) : S := cf_fo (fun a j => st a (512 * y + j)) n a
def cf_lin {S : Type} (st : S → Nat → S) (w y : Nat) (a : S) : S := cf_fo (fun a y => cf_row st y (64 * w) a) y a
theorem cf_row_s {S : Type} {st : S → Nat → S} {y k : Nat} {a : S} (hk : 512 * y ≤ k) : cf_row st y (k + 1 - 512 * y) a = st (cf_row st y (k - 512 * y) a) k := by
  rw [show k + 1 - 512 * y = (k - 512 * y) + 1 by omega]
  show st _ (512 * y + (k - 512 * y)) = _
  rw [show 512 * y + (k - 512 * y) = k by omega]
  rfl
theorem cf_row_0 {S : Type} {st : S → Nat → S} {y k : Nat} {a : S} (hk : k = 512 * y) : cf_row st y (k - 512 * y) a = a := by
  rw [show k - 512 * y = 0 by omega]
  rfl
theorem cf_row_e {S : Type} {st : S → Nat → S} {w y k : Nat} {a : S} (hk : k = 512 * y + 64 * w) : cf_row st y (k - 512 * y) (cf_lin st w y a) = cf_lin st w (y + 1) a := by
  rw [show k - 512 * y = 64 * w by omega]
  rfl
theorem cf_lin_e {S : Type} (st : S → Nat → S) (w h : Nat) (a : S) : cf_lin st w h a = cf_all w h (fun a x y q => st a (64 * (8 * y + x) + q)) a := cf_all_lin w h st a
def cf_dif (w h kw kh : Nat) (G K : cf_G) : Int32 := if w = kw ∧ h = kh then cf_df w h G K else (-1)
theorem cf_dif_ag {w h kw kh : Nat} {G G' K K' : cf_G} (a : cf_Ag w h G G') (b : cf_Ag kw kh K K') : cf_dif w h kw kh G K = cf_dif w h kw kh G' K' := by
  unfold cf_dif
  by_cases e : w = kw ∧ h = kh
  · rw [if_pos e, if_pos e]
    obtain ⟨rfl, rfl⟩ := e
    exact cf_df_ag a b
  · rw [if_neg e, if_neg e]
def cf_lk (w h kw kh : Nat) (G : cf_G) (i : Int32) : Int32 := if i = nI 0 then nI w else if i = nI 1 then nI h else if i = nI 2 then cf_nz w h G else if i = nI 3 then cf_mo w h G else if i = nI 4 then nI kw else if i = nI 5 then nI kh else (-1)
def cf_at (w h : Nat) (G : cf_G) (bx bz q : Int32) : Int32 := if cf_ib w h bx bz = 0 then 0 else if cf_ip q = 0 then 0 else G bx.toNatClampNeg bz.toNatClampNeg q.toNatClampNeg
theorem cf_at_ag {w h : Nat} {G G' : cf_G} (a : cf_Ag w h G G') (hw : w ≤ 8) (hh : h ≤ 8) (bx bz q : Int32) : cf_at w h G bx bz q = cf_at w h G' bx bz q := by
  unfold cf_at
  by_cases h1 : cf_ib w h bx bz = 0
  · rw [if_pos h1, if_pos h1]
  · rw [if_neg h1, if_neg h1]
    by_cases h2 : cf_ip q = 0
    · rw [if_pos h2, if_pos h2]
    · rw [if_neg h2, if_neg h2]
      obtain ⟨x, z, hx, hz, rfl, rfl⟩ := cf_ib_1 hw hh h1
      obtain ⟨j, hj, rfl⟩ := cf_ip_1 h2
      rw [nI_clamp (by omega), nI_clamp (by omega), nI_clamp (by omega)]
      exact a x z j hx hz hj
theorem cf_at_n {w h x z j : Nat} {G : cf_G} (hw : w ≤ 8) (hh : h ≤ 8) (hx : x < w) (hz : z < h) (hj : j < 64) : cf_at w h G (nI x) (nI z) (nI j) = G x z j := by
  unfold cf_at
  rw [cf_ib_n hw hh hx hz, cf_ip_n hj, if_neg cf_11, if_neg cf_11, nI_clamp (by omega), nI_clamp (by omega), nI_clamp (by omega)]
theorem cf_mi_fin {w h : Nat} {f fc : Nat → Int32} {U : cf_G} (a : cf_mx w h 0 f fc) (b : cf_Ag w h U (cf_nG 1 (cf_V fc))) : cf_Ag w h U (cf_mi w (cf_V f)) := fun x y q g1 g2 g3 => by
  rw [b x y q g1 g2 g3]
  unfold cf_nG cf_mi cf_V
  have e : fc (64 * (8 * y + x) + q) = f (64 * (8 * y + (w - 1 - x)) + q) := by rw [a x y q g1 g3, if_pos (Or.inl g2)]
  rw [e, Nat.div_one]
theorem cf_fl_fin {w h y0 : Nat} {f fc : Nat → Int32} {U : cf_G} (a : cf_fx w h y0 0 f fc) (e : y0 = h / 2) (b : cf_Ag w h U (cf_nG 8 (cf_V fc))) : cf_Ag w h U (cf_fl h (cf_V f)) := fun x y q g1 g2 g3 => by
  rw [b x y q g1 g2 g3]
  unfold cf_nG cf_fl cf_V
  rw [a x y q g1 g2 g3]
  by_cases e1 : (y < y0 ∨ h - 1 - y < y0) ∨ ((y = y0 ∨ h - 1 - y = y0) ∧ x < 0)
  · rw [if_pos e1]
  · rw [if_neg e1, show h - 1 - y = y by omega]
theorem cf_ng_n2 {b w y0 k : Nat} {f fc : Nat → Int32} (h : cf_ng b w y0 (k - 512 * y0) f fc) (hb : b = 1 ∨ b = 8) (hw : w ≤ 8) (h1 : 512 * y0 ≤ k) (h2 : k < 512 * y0 + 64 * w) (ho : k / b % 2 = 1) : cf_ng b w y0 (k + 1 - 512 * y0) f (upd fc k (-(fc k))) := by
  obtain ⟨j, rfl⟩ : ∃ j, k = 512 * y0 + j := ⟨k - 512 * y0, by omega⟩
  rw [show 512 * y0 + j + 1 - 512 * y0 = j + 1 by omega]
  rw [show 512 * y0 + j - 512 * y0 = j by omega] at h
  exact cf_ng_n h hb hw (by omega) ho
theorem cf_ng_k2 {b w y0 k : Nat} {f fc : Nat → Int32} (h : cf_ng b w y0 (k - 512 * y0) f fc) (hb : b = 1 ∨ b = 8) (hw : w ≤ 8) (h1 : 512 * y0 ≤ k) (h2 : k < 512 * y0 + 64 * w) (ho : ¬ k / b % 2 = 1) : cf_ng b w y0 (k + 1 - 512 * y0) f fc := by
  obtain ⟨j, rfl⟩ : ∃ j, k = 512 * y0 + j := ⟨k - 512 * y0, by omega⟩
  rw [show 512 * y0 + j + 1 - 512 * y0 = j + 1 by omega]
  rw [show 512 * y0 + j - 512 * y0 = j by omega] at h
  exact cf_ng_k h hb hw (by omega) ho
theorem cf_ng_z {b w y0 k : Nat} {f fc : Nat → Int32} (h : cf_ng b w y0 0 f fc) (e : k = 512 * y0) : cf_ng b w y0 (k - 512 * y0) f fc := by
  rw [show k - 512 * y0 = 0 by omega]; exact h
theorem cf_ng_w {b w y0 k : Nat} {f fc : Nat → Int32} (h : cf_ng b w y0 (k - 512 * y0) f fc) (e : k = 512 * y0 + 64 * w) : cf_ng b w (y0 + 1) 0 f fc := cf_ng_r h (by omega)
/-- the greatest size: the class's step and the model's -/
def cf_mc (a v : Int32) : Int32 := if a < (if 0 ≤ v then v else 0 - v) then (if 0 ≤ v then v else 0 - v) else a
theorem cf_mc_ms {a v : Int32} (h : 0 ≤ a) : cf_mc a v = cf_ms a v := by
  have z : (0 : Int32) - v = -v := by
    apply Int32.toBitVec_inj.mp
    simp
  unfold cf_mc cf_ms
  rw [z]
  by_cases h1 : 0 ≤ v
  · rw [if_pos h1]
    by_cases h2 : a < v
    · rw [if_pos h2, if_pos h2]
    · rw [if_neg h2, if_neg h2]
      have h3 : ¬ a < -v := by
        intro g
        rw [Int32.le_iff_toInt_le, Int32.toInt_zero] at h h1
        rw [Int32.lt_iff_toInt_lt, Int32.toInt_neg] at g
        have b1 := Int32.le_toInt v
        have b2 := Int32.toInt_lt v
        rw [Int.bmod_def] at g
        omega
      rw [if_neg h3]
  · rw [if_neg h1]
    have h2 : ¬ a < v := by
      intro g
      rw [Int32.le_iff_toInt_le, Int32.toInt_zero] at h h1
      rw [Int32.lt_iff_toInt_lt] at g
      omega
    rw [if_neg h2]
theorem cf_fo_inv {S : Type} {st : S → Nat → S} (I : S → Prop) (hs : ∀ a j, I a → I (st a j)) {a : S} (h : I a) : ∀ n, I (cf_fo st n a)
  | 0 => h
  | n + 1 => hs _ n (cf_fo_inv I hs h n)
theorem cf_nlt {x y : Int32} (h : x ≤ y) : ¬ y < x := by
  rw [Int32.lt_iff_toInt_lt]
  rw [Int32.le_iff_toInt_le] at h
  omega
theorem cf_nle {x y : Int32} (h : ¬ x ≤ y) : y < x := by
  rw [Int32.lt_iff_toInt_lt]
  rw [Int32.le_iff_toInt_le] at h
  omega
theorem cf_fo_k {S : Type} (st : S → Nat → S) {b k : Nat} {a x : S} (h : b ≤ k) (e : x = st (cf_fo st (k - b) a) (k - b)) : x = cf_fo st (k + 1 - b) a := by
  rw [show k + 1 - b = (k - b) + 1 by omega]
  exact e
