/-! answers of the calls that may refuse -/
def cf_swr (w h : Nat) (ax az bx bz : Int32) : Int32 := if cf_ib w h ax az = 0 then nI 0 else if cf_ib w h bx bz = 0 then nI 0 else nI 1
def cf_swG (w h : Nat) (ax az bx bz : Int32) (G : cf_G) : cf_G := if cf_ib w h ax az = 0 then G else if cf_ib w h bx bz = 0 then G else cf_sx ax.toNatClampNeg az.toNatClampNeg bx.toNatClampNeg bz.toNatClampNeg G
theorem cf_swG_n {w h x z x2 z2 : Nat} {G : cf_G} (hw : w ≤ 8) (hh : h ≤ 8) (h1 : x < w) (h2 : z < h) (h3 : x2 < w) (h4 : z2 < h) : cf_swG w h (nI x) (nI z) (nI x2) (nI z2) G = cf_sx x z x2 z2 G := by
  unfold cf_swG
  rw [cf_ib_n hw hh h1 h2, cf_ib_n hw hh h3 h4, if_neg cf_11, if_neg cf_11, nI_clamp (by omega), nI_clamp (by omega), nI_clamp (by omega), nI_clamp (by omega)]
theorem cf_swr_n {w h x z x2 z2 : Nat} (hw : w ≤ 8) (hh : h ≤ 8) (h1 : x < w) (h2 : z < h) (h3 : x2 < w) (h4 : z2 < h) : cf_swr w h (nI x) (nI z) (nI x2) (nI z2) = nI 1 := by
  unfold cf_swr
  rw [cf_ib_n hw hh h1 h2, cf_ib_n hw hh h3 h4, if_neg cf_11, if_neg cf_11]
theorem cf_swG_ag {w h : Nat} {G G' : cf_G} (a : cf_Ag w h G G') (hw : w ≤ 8) (hh : h ≤ 8) (ax az bx bz : Int32) : cf_Ag w h (cf_swG w h ax az bx bz G) (cf_swG w h ax az bx bz G') := by
  unfold cf_swG
  by_cases h1 : cf_ib w h ax az = 0
  · rw [if_pos h1, if_pos h1]; exact a
  · rw [if_neg h1, if_neg h1]
    by_cases h2 : cf_ib w h bx bz = 0
    · rw [if_pos h2, if_pos h2]; exact a
    · rw [if_neg h2, if_neg h2]
      obtain ⟨x, z, hx, hz, rfl, rfl⟩ := cf_ib_1 hw hh h1
      obtain ⟨x2, z2, hx2, hz2, rfl, rfl⟩ := cf_ib_1 hw hh h2
      rw [nI_clamp (by omega), nI_clamp (by omega), nI_clamp (by omega), nI_clamp (by omega)]
      exact cf_sx_ag a hx hz hx2 hz2
/-- a crop that can be -/
def cf_ok (w h : Nat) (x y a b : Int32) (X Y A B : Nat) : Prop := x = nI X ∧ y = nI Y ∧ a = nI A ∧ b = nI B ∧ X + A ≤ w ∧ Y + B ≤ h ∧ 1 ≤ A ∧ 1 ≤ B
theorem cf_ok_u {w h : Nat} {x y a b : Int32} {X Y A B X' Y' A' B' : Nat} (hw : w ≤ 8) (hh : h ≤ 8) (p : cf_ok w h x y a b X Y A B) (q : cf_ok w h x y a b X' Y' A' B') : X = X' ∧ Y = Y' ∧ A = A' ∧ B = B' := by
  obtain ⟨p1, p2, p3, p4, p5, p6, p7, p8⟩ := p
  obtain ⟨q1, q2, q3, q4, q5, q6, q7, q8⟩ := q
  exact ⟨(nI_eq (by omega) (by omega)).mp (p1.symm.trans q1), (nI_eq (by omega) (by omega)).mp (p2.symm.trans q2), (nI_eq (by omega) (by omega)).mp (p3.symm.trans q3), (nI_eq (by omega) (by omega)).mp (p4.symm.trans q4)⟩
theorem cf_one : (nI 1).toInt = 1 := nI_toInt (by omega)
theorem cf_nat {x : Int32} (h : ¬ x < 0) : ∃ n : Nat, x = nI n ∧ n < 2147483648 := by
  obtain ⟨j, hj, e⟩ := nI_of h
  exact ⟨j, e, by omega⟩
theorem cf_pos {x : Int32} (h : ¬ x < nI 1) : ∃ n : Nat, x = nI n ∧ n < 2147483648 ∧ 1 ≤ n := by
  have h0 : ¬ x < 0 := by
    rw [Int32.lt_iff_toInt_lt, Int32.toInt_zero]
    rw [Int32.lt_iff_toInt_lt, cf_one] at h
    omega
  obtain ⟨n, e, hn⟩ := cf_nat h0
  refine ⟨n, e, hn, ?_⟩
  rw [Int32.lt_iff_toInt_lt, cf_one, e, nI_toInt (by omega)] at h
  omega
theorem cf_subI {w x : Nat} (hw : w ≤ 8) (hx : x < 2147483648) : (nI w - nI x).toInt = (w : Int) - x := by
  rw [Int32.toInt_sub, nI_toInt (by omega), nI_toInt (by omega), Int.bmod_def]
  omega
/-- the class's last test and the model's -/
theorem cf_crop_c {w X A : Nat} (hw : w ≤ 8) (hX : X < 2147483648) (hA : A < 2147483648) : nI w - nI X < nI A ↔ ¬ X + A ≤ w := by
  rw [Int32.lt_iff_toInt_lt, cf_subI hw hX, nI_toInt (by omega)]
  omega
theorem cf_crop_m {w X A : Nat} (hw : w ≤ 8) (hX : X < 2147483648) (hA : A ≤ w) : nI w - nI A < nI X ↔ ¬ X + A ≤ w := by
  rw [Int32.lt_iff_toInt_lt, cf_subI hw (by omega), nI_toInt (by omega)]
  omega
theorem cf_no1 {w h : Nat} {x y a b : Int32} (hw : w ≤ 8) (hh : h ≤ 8) (g : x < 0 ∨ y < 0 ∨ a < nI 1 ∨ b < nI 1) : ¬ ∃ X Y A B, cf_ok w h x y a b X Y A B := by
  rintro ⟨X, Y, A, B, p1, p2, p3, p4, p5, p6, p7, p8⟩
  rcases g with g | g | g | g
  · rw [p1] at g; exact nI_pos (by omega) g
  · rw [p2] at g; exact nI_pos (by omega) g
  · rw [p3, nI_ltI (by omega) (by omega)] at g; omega
  · rw [p4, nI_ltI (by omega) (by omega)] at g; omega
theorem cf_no2 {w h X Y A B : Nat} (hX : X < 2147483648) (hY : Y < 2147483648) (hA : A < 2147483648) (hB : B < 2147483648) (hw : w ≤ 8) (hh : h ≤ 8) (g : ¬ X + A ≤ w ∨ ¬ Y + B ≤ h) : ¬ ∃ X' Y' A' B', cf_ok w h (nI X) (nI Y) (nI A) (nI B) X' Y' A' B' := by
  rintro ⟨X', Y', A', B', p1, p2, p3, p4, p5, p6, p7, p8⟩
  rw [nI_eq (by omega) (by omega)] at p1 p2 p3 p4
  omega
/-! put -/
def cf_pk (w h : Nat) (bx bz q v : Int32) : Int32 := if cf_ib w h bx bz = 0 then nI 1 else if cf_ip q = 0 then nI 1 else if v < (-32767) then nI 2 else if nI 32767 < v then nI 2 else nI 0
def cf_p1 (x z j : Nat) (v : Int32) (G : cf_G) : cf_G := fun a b c => if a = x ∧ b = z ∧ c = j then v else G a b c
def cf_pu (w h : Nat) (bx bz q v : Int32) (G : cf_G) : cf_G := if cf_pk w h bx bz q v = 0 then cf_p1 bx.toNatClampNeg bz.toNatClampNeg q.toNatClampNeg v G else G
theorem cf_p1_ag {w h x z j : Nat} {v : Int32} {G G' : cf_G} (a : cf_Ag w h G G') : cf_Ag w h (cf_p1 x z j v G) (cf_p1 x z j v G') := fun b c d h1 h2 h3 => by
  unfold cf_p1
  rw [a b c d h1 h2 h3]
theorem cf_pu_ag {w h : Nat} {bx bz q v : Int32} {G G' : cf_G} (a : cf_Ag w h G G') : cf_Ag w h (cf_pu w h bx bz q v G) (cf_pu w h bx bz q v G') := by
  unfold cf_pu
  by_cases e : cf_pk w h bx bz q v = 0
  · rw [if_pos e, if_pos e]; exact cf_p1_ag a
  · rw [if_neg e, if_neg e]; exact a
theorem cf_p1_upd {w h x z j : Nat} {v : Int32} {f : Nat → Int32} (hw : w ≤ 8) (hx : x < w) (hj : j < 64) : cf_Ag w h (cf_V (upd f (64 * (8 * z + x) + j) v)) (cf_p1 x z j v (cf_V f)) := fun a b c h1 h2 h3 => by
  unfold cf_V cf_p1 upd
  by_cases e : a = x ∧ b = z ∧ c = j
  · rw [if_pos e, if_pos (by omega)]
  · rw [if_neg e, if_neg (by omega)]
/-! four -/
def cf_fou (w h : Nat) (G : cf_G) (bx bz v t : Int32) : Int64 := if cf_ib w h bx bz = 0 then 0 else if v < 0 then 0 else if nI 8 ≤ v then 0 else if t < 0 then 0 else if nI 1 < t then 0 else cf_fr G bx.toNatClampNeg bz.toNatClampNeg (8 * v.toNatClampNeg + 4 * t.toNatClampNeg)
theorem cf_le1 {t : Int32} (h1 : ¬ t < 0) (h2 : ¬ nI 1 < t) : ∃ j : Nat, j < 2 ∧ t = nI j := by
  obtain ⟨n, rfl, hn⟩ := cf_nat h1
  rw [nI_ltI (by omega) (by omega)] at h2
  exact ⟨n, by omega, rfl⟩
theorem cf_gt7 (v : Int32) : nI 7 < v ↔ nI 8 ≤ v := by
  rw [Int32.lt_iff_toInt_lt, Int32.le_iff_toInt_le, nI_toInt (by omega), nI_toInt (by omega)]
  omega
theorem cf_fou_ag {w h : Nat} {G G' : cf_G} (a : cf_Ag w h G G') (hw : w ≤ 8) (hh : h ≤ 8) (bx bz v t : Int32) : cf_fou w h G bx bz v t = cf_fou w h G' bx bz v t := by
  unfold cf_fou
  by_cases h1 : cf_ib w h bx bz = 0
  · rw [if_pos h1, if_pos h1]
  · rw [if_neg h1, if_neg h1]
    by_cases h2 : v < 0
    · rw [if_pos h2, if_pos h2]
    · rw [if_neg h2, if_neg h2]
      by_cases h3 : nI 8 ≤ v
      · rw [if_pos h3, if_pos h3]
      · rw [if_neg h3, if_neg h3]
        by_cases h4 : t < 0
        · rw [if_pos h4, if_pos h4]
        · rw [if_neg h4, if_neg h4]
          by_cases h5 : nI 1 < t
          · rw [if_pos h5, if_pos h5]
          · rw [if_neg h5, if_neg h5]
            obtain ⟨x, z, hx, hz, rfl, rfl⟩ := cf_ib_1 hw hh h1
            obtain ⟨v0, hv, rfl⟩ := cf_in (by omega) h2 h3
            obtain ⟨t0, ht, rfl⟩ := cf_le1 h4 h5
            rw [nI_clamp (by omega), nI_clamp (by omega), nI_clamp (by omega), nI_clamp (by omega)]
            exact cf_fr_ag a hx hz (by omega)
theorem cf_fou_n {w h x z v0 t0 : Nat} {G : cf_G} (hw : w ≤ 8) (hh : h ≤ 8) (hx : x < w) (hz : z < h) (hv : v0 < 8) (ht : t0 < 2) : cf_fou w h G (nI x) (nI z) (nI v0) (nI t0) = cf_fr G x z (8 * v0 + 4 * t0) := by
  unfold cf_fou
  rw [cf_ib_n hw hh hx hz, if_neg cf_11, if_neg (nI_pos (by omega)), if_neg (nI_ge hv (by omega)), if_neg (nI_pos (by omega)), if_neg (by rw [nI_ltI (by omega) (by omega)]; omega), nI_clamp (by omega), nI_clamp (by omega), nI_clamp (by omega), nI_clamp (by omega)]
def cf_fst (f : Nat → Int32) (first : Nat) (a : Int64) (k : Nat) : Int64 := (a <<< ((nI 16).toInt64 &&& 63)) ||| ((f (first + k)) &&& nI 65535).toInt64
theorem cf_fst_e (f : Nat → Int32) (x z b : Nat) : cf_fo (cf_fst f (64 * (8 * z + x) + b)) 4 0 = cf_fr (cf_V f) x z b := by
  unfold cf_fr
  refine cf_fo_congr 4 (fun a k _ => ?_)
  unfold cf_fst cf_V
  rw [Nat.add_assoc]
/-! turn -/
theorem cf_tu_s : ∀ (k w h : Nat) (G : cf_G), cf_tu (k + 1) w h G = cf_mi (if k % 2 = 1 then w else h) (cf_tr (cf_tu k w h G))
  | 0, w, h, G => rfl
  | k + 1, w, h, G => by
    show cf_tu (k + 1) h w (cf_mi h (cf_tr G)) = _
    rw [cf_tu_s k h w]
    show cf_mi (if k % 2 = 1 then h else w) (cf_tr (cf_tu (k + 1) w h G)) = _
    rcases Nat.mod_two_eq_zero_or_one k with e | e
    · rw [if_neg (by omega), if_pos (by omega)]
    · rw [if_pos e, if_neg (by omega)]
def cf_qn (q : Int32) : Nat := (fmv q (nI 4)).toNatClampNeg
theorem cf_qn_c (q : Int32) : fmv q (nI 4) = nI (cf_qn q) ∧ cf_qn q < 4 := by
  have h4 : (nI 4).toInt = 4 := nI_toInt (by omega)
  obtain ⟨c, e, hc⟩ := fmv_nat (a := q) (m := nI 4) (by rw [h4]; decide)
  rw [h4] at hc
  have e2 : cf_qn q = c := by
    unfold cf_qn
    rw [e]
    exact nI_clamp (by omega)
  rw [e2]
  exact ⟨e, by omega⟩
theorem cf_qn_m (q : Int32) : ((q - q / nI 4 * nI 4) + nI 4) - ((q - q / nI 4 * nI 4) + nI 4) / nI 4 * nI 4 = nI (cf_qn q) := by
  have h4 : (nI 4).toInt = 4 := nI_toInt (by omega)
  rw [← (cf_qn_c q).1]
  have r := rem_toInt q (nI 4)
  rw [h4] at r
  have f : fmv q (nI 4) = fmOf (q - q / nI 4 * nI 4) (nI 4) := rfl
  rw [f]
  generalize q - q / nI 4 * nI 4 = t at r
  have b := tmod_bounds (a := q.toInt) (M := 4) (by decide)
  have a4 : (t + nI 4).toInt = t.toInt + 4 := by
    rw [Int32.toInt_add, h4, Int.bmod_def]
    omega
  have r2 := rem_toInt (t + nI 4) (nI 4)
  rw [h4, a4] at r2
  apply Int32.toInt_inj.mp
  rw [r2]
  unfold fmOf
  by_cases g : 0 ≤ t
  · rw [if_pos g]
    rw [Int32.le_iff_toInt_le, Int32.toInt_zero] at g
    rw [Int.tmod_eq_emod_of_nonneg (by omega)]
    omega
  · rw [if_neg g, a4]
    rw [Int32.le_iff_toInt_le, Int32.toInt_zero] at g
    rw [Int.tmod_eq_emod_of_nonneg (by omega)]
    omega
theorem cf_par {α : Type} (k : Nat) (a b : α) : (if (k + 1) % 2 = 1 then a else b) = (if k % 2 = 1 then b else a) := by
  rcases Nat.mod_two_eq_zero_or_one k with e | e
  · rw [if_pos (by omega), if_neg (by omega)]
  · rw [if_neg (by omega), if_pos e]
theorem cf_fo_1 {S : Type} (st : S → Nat → S) (n : Nat) (a : S) : cf_fo st (n + 1) a = st (cf_fo st n a) n := rfl
theorem cf_a0 (a : Int32) : a + nI 0 = a := by
  rw [nI_0]
  exact Int32.add_zero a
theorem cf_ifp {c : Prop} [Decidable c] {a : Int32} (h : c) : a + nI 0 = if c then a else a + 1 := by rw [if_pos h]; exact cf_a0 a
theorem cf_ifn {c : Prop} [Decidable c] {a : Int32} (h : ¬ c) : a + nI 1 = if c then a else a + 1 := by rw [if_neg h]; rfl
