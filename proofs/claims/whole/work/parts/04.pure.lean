/-! PURE ROWS: the plane as a mathematical value. cell (x, y) of blocks, place q: index 64 * (8 * y + x) + q -/
abbrev cf_G : Type := Nat → Nat → Nat → Int32
def cf_V (f : Nat → Int32) : cf_G := fun x y q => f (64 * (8 * y + x) + q)
/-- the two planes agree on w by h blocks -/
def cf_Ag (w h : Nat) (G G' : cf_G) : Prop := ∀ x y q, x < w → y < h → q < 64 → G x y q = G' x y q
theorem cf_Ag.rf {w h : Nat} {G : cf_G} : cf_Ag w h G G := fun _ _ _ _ _ _ => rfl
theorem cf_Ag.tr {w h : Nat} {G G' G'' : cf_G} (a : cf_Ag w h G G') (b : cf_Ag w h G' G'') : cf_Ag w h G G'' := fun x y q h1 h2 h3 => (a x y q h1 h2 h3).trans (b x y q h1 h2 h3)
theorem cf_Ag.sy {w h : Nat} {G G' : cf_G} (a : cf_Ag w h G G') : cf_Ag w h G' G := fun x y q h1 h2 h3 => (a x y q h1 h2 h3).symm
def cf_tr (G : cf_G) : cf_G := fun x y q => G y x (8 * (q % 8) + q / 8)
def cf_mi (w : Nat) (G : cf_G) : cf_G := fun x y q => if q % 2 = 1 then -(G (w - 1 - x) y q) else G (w - 1 - x) y q
def cf_fl (h : Nat) (G : cf_G) : cf_G := fun x y q => if q / 8 % 2 = 1 then -(G x (h - 1 - y) q) else G x (h - 1 - y) q
def cf_cr (X Y : Nat) (G : cf_G) : cf_G := fun x y q => G (X + x) (Y + y) q
def cf_sx (a b c d : Nat) (G : cf_G) : cf_G := fun x y q => if x = a ∧ y = b then G c d q else if x = c ∧ y = d then G a b q else G x y q
theorem cf_tr_ag {w h : Nat} {G G' : cf_G} (a : cf_Ag w h G G') : cf_Ag h w (cf_tr G) (cf_tr G') := fun x y q h1 h2 h3 => a y x _ h2 h1 (by omega)
theorem cf_mi_ag {w h : Nat} {G G' : cf_G} (a : cf_Ag w h G G') : cf_Ag w h (cf_mi w G) (cf_mi w G') := fun x y q h1 h2 h3 => by
  unfold cf_mi
  rw [a (w - 1 - x) y q (by omega) h2 h3]
theorem cf_fl_ag {w h : Nat} {G G' : cf_G} (a : cf_Ag w h G G') : cf_Ag w h (cf_fl h G) (cf_fl h G') := fun x y q h1 h2 h3 => by
  unfold cf_fl
  rw [a x (h - 1 - y) q h1 (by omega) h3]
theorem cf_cr_ag {w h X Y w' h' : Nat} {G G' : cf_G} (a : cf_Ag w h G G') (hx : X + w' ≤ w) (hy : Y + h' ≤ h) : cf_Ag w' h' (cf_cr X Y G) (cf_cr X Y G') := fun x y q h1 h2 h3 => a (X + x) (Y + y) q (by omega) (by omega) h3
theorem cf_sx_ag {w h a b c d : Nat} {G G' : cf_G} (g : cf_Ag w h G G') (h1 : a < w) (h2 : b < h) (h3 : c < w) (h4 : d < h) : cf_Ag w h (cf_sx a b c d G) (cf_sx a b c d G') := fun x y q g1 g2 g3 => by
  unfold cf_sx
  rw [g c d q h3 h4 g3, g a b q h1 h2 g3, g x y q g1 g2 g3]
/-- so many quarter turns; the width and the height change places at each -/
def cf_tu : Nat → Nat → Nat → cf_G → cf_G
  | 0, _, _, G => G
  | n + 1, w, h, G => cf_tu n h w (cf_mi h (cf_tr G))
theorem cf_tu_ag : ∀ (n w h : Nat) {G G' : cf_G}, cf_Ag w h G G' → cf_Ag (if n % 2 = 1 then h else w) (if n % 2 = 1 then w else h) (cf_tu n w h G) (cf_tu n w h G')
  | 0, w, h, G, G', a => by simpa [cf_tu] using a
  | n + 1, w, h, G, G', a => by
    have b := cf_tu_ag n h w (cf_mi_ag (cf_tr_ag a))
    rcases Nat.mod_two_eq_zero_or_one n with e | e
    · rw [if_neg (by omega), if_neg (by omega)] at b
      rw [if_pos (by omega), if_pos (by omega)]
      exact b
    · rw [if_pos e, if_pos e] at b
      rw [if_neg (by omega), if_neg (by omega)]
      exact b
theorem cf_q8 {q : Nat} (h : q < 64) : 8 * (q % 8) + q / 8 < 64 := by omega
theorem cf_qT {q : Nat} (h : q < 64) : 8 * ((8 * (q % 8) + q / 8) % 8) + (8 * (q % 8) + q / 8) / 8 = q := by omega
theorem cf_nn (v : Int32) : - -v = v := by
  apply Int32.toBitVec_inj.mp
  simp
theorem cf_tu2 {w h : Nat} (G : cf_G) : cf_Ag w h (cf_fl h (cf_mi w G)) (cf_tu 2 w h G) := fun x y q h1 h2 h3 => by
  have e1 : (8 * (q % 8) + q / 8) % 2 = q / 8 % 2 := by omega
  have e2 : h - 1 - y = h - 1 - y := rfl
  simp only [cf_tu, cf_fl, cf_mi, cf_tr, e1, cf_qT h3]
  by_cases a : q % 2 = 1
  · by_cases b : q / 8 % 2 = 1
    · simp [a, b]
    · simp [a, b]
  · by_cases b : q / 8 % 2 = 1
    · simp [a, b]
    · simp [a, b]
theorem cf_tu3 {w h : Nat} (G : cf_G) : cf_Ag h w (cf_fl w (cf_tr G)) (cf_tu 3 w h G) := fun x y q h1 h2 h3 => by
  have e1 : (8 * (q % 8) + q / 8) % 2 = q / 8 % 2 := by omega
  have e0 : (8 * (q % 8) + q / 8) / 8 = q % 8 := by omega
  have e2 : (8 * (q % 8) + q / 8) / 8 % 2 = q % 2 := by rw [e0]; omega
  have e3 : h - 1 - (h - 1 - x) = x := by omega
  have e4 : 8 * ((8 * (q % 8) + q / 8) % 8) + (8 * (q % 8) + q / 8) / 8 = q := cf_qT h3
  simp only [cf_tu, cf_fl, cf_mi, cf_tr, e1, e3, e4]
  by_cases a : q % 2 = 1
  · by_cases b : q / 8 % 2 = 1
    · simp [a, b, e1, e2, e4, cf_nn]
    · simp [a, b, e1, e2, e4, cf_nn]
  · by_cases b : q / 8 % 2 = 1
    · simp [a, b, e1, e2, e4, cf_nn]
    · simp [a, b, e1, e2, e4, cf_nn]
/-! two blocks change places: block i and block j -/
def cf_sw (i j t : Nat) : Nat := if t = i then j else if t = j then i else t
def cf_xb (f fc : Nat → Int32) (i j p : Nat) : Prop := ∀ t q, q < 64 → fc (64 * t + q) = if q < p then f (64 * cf_sw i j t + q) else f (64 * t + q)
theorem cf_xb_0 {f : Nat → Int32} {i j : Nat} : cf_xb f f i j 0 := fun t q _ => by rw [if_neg (by omega)]
theorem cf_xb_s {f fc : Nat → Int32} {i j p : Nat} (h : cf_xb f fc i j p) (hp : p < 64) : cf_xb f (upd (upd fc (64 * i + p) (fc (64 * j + p))) (64 * j + p) (fc (64 * i + p))) i j (p + 1) := by
  intro t q hq
  have hi := h i p hp
  have hj := h j p hp
  have ht := h t q hq
  rw [if_neg (by omega)] at hi hj
  unfold upd
  rw [hi, hj]
  by_cases e1 : 64 * t + q = 64 * j + p
  · obtain ⟨rfl, rfl⟩ : t = j ∧ q = p := by omega
    rw [if_pos rfl, if_pos (by omega)]
    unfold cf_sw
    by_cases e3 : t = i
    · subst e3
      rw [if_pos rfl]
    · rw [if_neg e3, if_pos rfl]
  · rw [if_neg e1]
    by_cases e2 : 64 * t + q = 64 * i + p
    · obtain ⟨rfl, rfl⟩ : t = i ∧ q = p := by omega
      rw [if_pos rfl, if_pos (by omega)]
      unfold cf_sw
      rw [if_pos rfl]
    · rw [if_neg e2, ht]
      by_cases e3 : q < p
      · rw [if_pos e3, if_pos (by omega)]
      · rw [if_neg e3]
        by_cases e4 : q = p
        · rw [if_pos (by omega)]
          unfold cf_sw
          rw [if_neg (by omega), if_neg (by omega)]
        · rw [if_neg (by omega)]
def cf_xB (f f2 : Nat → Int32) (i j : Nat) : Prop := ∀ t q, q < 64 → f2 (64 * t + q) = f (64 * cf_sw i j t + q)
theorem cf_xb_e {f fc : Nat → Int32} {i j : Nat} (h : cf_xb f fc i j 64) : cf_xB f fc i j := fun t q hq => by rw [h t q hq, if_pos hq]
theorem cf_xB_sx {f f2 : Nat → Int32} {w h a b c d : Nat} (H : cf_xB f f2 (8 * b + a) (8 * d + c)) (hw : w ≤ 8) (h1 : a < w) (h3 : c < w) : cf_Ag w h (cf_V f2) (cf_sx a b c d (cf_V f)) := fun x y q g1 g2 g3 => by
  have e := H (8 * y + x) q g3
  unfold cf_V cf_sx
  rw [e]
  unfold cf_sw
  by_cases e1 : x = a ∧ y = b
  · rw [if_pos (by omega), if_pos e1]
  · rw [if_neg (by omega), if_neg e1]
    by_cases e2 : x = c ∧ y = d
    · rw [if_pos (by omega), if_pos e2]
    · rw [if_neg (by omega), if_neg e2]
/-! the class's mirror: rows of blocks exchanged in place -/
def cf_mx (w y0 x0 : Nat) (f fc : Nat → Int32) : Prop := ∀ x y q, x < w → q < 64 → fc (64 * (8 * y + x) + q) = if y < y0 ∨ (y = y0 ∧ (x < x0 ∨ w - 1 - x < x0)) then f (64 * (8 * y + (w - 1 - x)) + q) else f (64 * (8 * y + x) + q)
theorem cf_mx_0 {w : Nat} {f : Nat → Int32} : cf_mx w 0 0 f f := fun x y q _ _ => by rw [if_neg (by omega)]
theorem cf_mx_s {w y0 x0 : Nat} {f fc f2 : Nat → Int32} (h : cf_mx w y0 x0 f fc) (hw : w ≤ 8) (hx : x0 < w / 2) (H : cf_xB fc f2 (8 * y0 + x0) (8 * y0 + (w - 1 - x0))) : cf_mx w y0 (x0 + 1) f f2 := by
  intro x y q g1 g2
  rw [H (8 * y + x) q g2]
  unfold cf_sw
  by_cases e1 : x = x0 ∧ y = y0
  · obtain ⟨rfl, rfl⟩ := e1
    rw [if_pos rfl, if_pos (by omega), h (w - 1 - x) y q (by omega) g2, if_neg (by omega)]
  · rw [if_neg (by omega)]
    by_cases e2 : x = w - 1 - x0 ∧ y = y0
    · obtain ⟨rfl, rfl⟩ := e2
      rw [if_pos rfl, if_pos (by omega), h x0 y q (by omega) g2, if_neg (by omega)]
      congr 3
      omega
    · rw [if_neg (by omega), h x y q g1 g2]
      by_cases e3 : y < y0 ∨ (y = y0 ∧ (x < x0 ∨ w - 1 - x < x0))
      · rw [if_pos e3, if_pos (by omega)]
      · rw [if_neg e3, if_neg (by omega)]
theorem cf_mx_r {w y0 x0 : Nat} {f fc : Nat → Int32} (h : cf_mx w y0 x0 f fc) (hx : x0 = w / 2) : cf_mx w (y0 + 1) 0 f fc := by
  intro x y q g1 g2
  rw [h x y q g1 g2]
  by_cases e3 : y < y0 ∨ (y = y0 ∧ (x < x0 ∨ w - 1 - x < x0))
  · rw [if_pos e3, if_pos (by omega)]
  · rw [if_neg e3]
    by_cases e4 : y = y0
    · rw [if_pos (by omega)]
      congr 3
      omega
    · rw [if_neg (by omega)]
/-! the class's flip: columns of blocks exchanged in place -/
def cf_fx (w h y0 x0 : Nat) (f fc : Nat → Int32) : Prop := ∀ x y q, x < w → y < h → q < 64 → fc (64 * (8 * y + x) + q) = if (y < y0 ∨ h - 1 - y < y0) ∨ ((y = y0 ∨ h - 1 - y = y0) ∧ x < x0) then f (64 * (8 * (h - 1 - y) + x) + q) else f (64 * (8 * y + x) + q)
theorem cf_fx_0 {w h : Nat} {f : Nat → Int32} : cf_fx w h 0 0 f f := fun x y q _ _ _ => by rw [if_neg (by omega)]
theorem cf_fx_s {w h y0 x0 : Nat} {f fc f2 : Nat → Int32} (hh : cf_fx w h y0 x0 f fc) (hw : w ≤ 8) (hx : x0 < w) (hy : y0 < h / 2) (H : cf_xB fc f2 (8 * y0 + x0) (8 * (h - 1 - y0) + x0)) : cf_fx w h y0 (x0 + 1) f f2 := by
  intro x y q g1 g0 g2
  rw [H (8 * y + x) q g2]
  unfold cf_sw
  by_cases e1 : x = x0 ∧ y = y0
  · obtain ⟨rfl, rfl⟩ := e1
    rw [if_pos rfl, if_pos (by omega), hh x (h - 1 - y) q g1 (by omega) g2, if_neg (by omega)]
  · rw [if_neg (by omega)]
    by_cases e2 : x = x0 ∧ y = h - 1 - y0
    · obtain ⟨rfl, rfl⟩ := e2
      rw [if_pos rfl, if_pos (by omega), hh x y0 q (by omega) (by omega) g2, if_neg (by omega)]
      congr 3
      omega
    · rw [if_neg (by omega), hh x y q g1 g0 g2]
      by_cases e3 : (y < y0 ∨ h - 1 - y < y0) ∨ ((y = y0 ∨ h - 1 - y = y0) ∧ x < x0)
      · rw [if_pos e3, if_pos (by omega)]
      · rw [if_neg e3, if_neg (by omega)]
theorem cf_fx_r {w h y0 x0 : Nat} {f fc : Nat → Int32} (hh : cf_fx w h y0 x0 f fc) (hx : x0 = w) : cf_fx w h (y0 + 1) 0 f fc := by
  intro x y q g1 g0 g2
  rw [hh x y q g1 g0 g2]
  by_cases e3 : (y < y0 ∨ h - 1 - y < y0) ∨ ((y = y0 ∨ h - 1 - y = y0) ∧ x < x0)
  · rw [if_pos e3, if_pos (by omega)]
  · rw [if_neg e3, if_neg (by omega)]
/-! signs: rows y0, in row y0 the first j -/
def cf_ng (b w y0 j : Nat) (f fc : Nat → Int32) : Prop := ∀ x y q, x < w → q < 64 → fc (64 * (8 * y + x) + q) = if (y < y0 ∨ (y = y0 ∧ 64 * x + q < j)) ∧ q / b % 2 = 1 then -(f (64 * (8 * y + x) + q)) else f (64 * (8 * y + x) + q)
theorem cf_ng_0 {b w : Nat} {f : Nat → Int32} : cf_ng b w 0 0 f f := fun x y q _ _ => by rw [if_neg (by omega)]
theorem cf_ng_r {b w y0 j : Nat} {f fc : Nat → Int32} (h : cf_ng b w y0 j f fc) (hj : j = 64 * w) : cf_ng b w (y0 + 1) 0 f fc := by
  intro x y q g1 g2
  rw [h x y q g1 g2]
  by_cases e : (y < y0 ∨ (y = y0 ∧ 64 * x + q < j)) ∧ q / b % 2 = 1
  · rw [if_pos e, if_pos ⟨by omega, e.2⟩]
  · rw [if_neg e]
    by_cases o : q / b % 2 = 1
    · rw [if_neg (fun a => e ⟨by omega, o⟩)]
    · rw [if_neg (fun a => o a.2)]
theorem cf_ng_n {b w y0 j : Nat} {f fc : Nat → Int32} (h : cf_ng b w y0 j f fc) (hb : b = 1 ∨ b = 8) (hw : w ≤ 8) (hj : j < 64 * w) (ho : (512 * y0 + j) / b % 2 = 1) : cf_ng b w y0 (j + 1) f (upd fc (512 * y0 + j) (-(fc (512 * y0 + j)))) := by
  intro x y q g1 g2
  unfold upd
  by_cases e : 64 * (8 * y + x) + q = 512 * y0 + j
  · have e1 : y = y0 := by omega
    have e2 : j = 64 * x + q := by omega
    subst e1; subst e2
    have e3 : 512 * y + (64 * x + q) = 64 * (8 * y + x) + q := by omega
    rw [if_pos e, e3, h x y q g1 g2, if_neg (by omega), if_pos ⟨by omega, by rcases hb with rfl | rfl <;> omega⟩]
  · rw [if_neg e, h x y q g1 g2]
    by_cases o : q / b % 2 = 1
    · by_cases e4 : y < y0 ∨ (y = y0 ∧ 64 * x + q < j)
      · rw [if_pos ⟨e4, o⟩, if_pos ⟨by omega, o⟩]
      · rw [if_neg (fun a => e4 a.1), if_neg (fun a => e4 (by have := a.1; omega))]
    · rw [if_neg (fun a => o a.2), if_neg (fun a => o a.2)]
theorem cf_ng_k {b w y0 j : Nat} {f fc : Nat → Int32} (h : cf_ng b w y0 j f fc) (hb : b = 1 ∨ b = 8) (hw : w ≤ 8) (hj : j < 64 * w) (ho : ¬ (512 * y0 + j) / b % 2 = 1) : cf_ng b w y0 (j + 1) f fc := by
  intro x y q g1 g2
  rw [h x y q g1 g2]
  by_cases o : q / b % 2 = 1
  · by_cases e4 : y < y0 ∨ (y = y0 ∧ 64 * x + q < j)
    · rw [if_pos ⟨e4, o⟩, if_pos ⟨by omega, o⟩]
    · rw [if_neg (fun a => e4 a.1), if_neg (fun a => e4 (by
        have := a.1
        rcases hb with rfl | rfl <;> omega))]
  · rw [if_neg (fun a => o a.2), if_neg (fun a => o a.2)]
def cf_nG (b : Nat) (G : cf_G) : cf_G := fun x y q => if q / b % 2 = 1 then -(G x y q) else G x y q
theorem cf_ng_e {b w h : Nat} {f fc : Nat → Int32} (hh : cf_ng b w h 0 f fc) : cf_Ag w h (cf_V fc) (cf_nG b (cf_V f)) := fun x y q g1 g2 g3 => by
  unfold cf_V cf_nG
  rw [hh x y q g1 g3]
  by_cases o : q / b % 2 = 1
  · rw [if_pos ⟨by omega, o⟩, if_pos o]
  · rw [if_neg (fun a => o a.2), if_neg o]
theorem cf_bit : ∀ (b : Nat), b = 1 ∨ b = 8 → ∀ i, i < 4096 → (¬ (nI i &&& nI b) = 0 ↔ i / b % 2 = 1) := by
  intro b hb i hi
  have e : nI i &&& nI b = nI (i &&& b) := by
    apply Int32.toBitVec_inj.mp
    show BitVec.ofNat 32 i &&& BitVec.ofNat 32 b = BitVec.ofNat 32 (i &&& b)
    apply BitVec.eq_of_toNat_eq
    simp [Nat.and_mod_two_pow]
  rw [e]
  have e2 : i &&& b = if i / b % 2 = 1 then b else 0 := by
    rcases hb with rfl | rfl
    · rw [Nat.and_one_is_mod, Nat.div_one]
      rcases Nat.mod_two_eq_zero_or_one i with h | h <;> simp [h]
    · apply Nat.eq_of_testBit_eq
      intro k
      have h8 : (8 : Nat) = 2 ^ 3 := rfl
      rw [Nat.testBit_and, h8, Nat.testBit_two_pow]
      by_cases hk : 3 = k
      · subst hk
        have : i.testBit 3 = decide (i / 2 ^ 3 % 2 = 1) := Nat.testBit_eq_decide_div_mod_eq
        rw [this]
        by_cases o : i / 2 ^ 3 % 2 = 1
        · rw [if_pos o]; simp [o]; decide
        · rw [if_neg o]; simp [o]
      · by_cases o : i / 2 ^ 3 % 2 = 1
        · rw [if_pos o]; simp [hk]; show Nat.testBit (2 ^ 3) k = false; rw [Nat.testBit_two_pow]; simp [hk]
        · rw [if_neg o]; simp [hk]
  rw [e2]
  by_cases o : i / b % 2 = 1
  · rw [if_pos o]
    exact ⟨fun _ => o, fun _ => nI_ne0 (by omega) (by omega)⟩
  · rw [if_neg o]
    exact ⟨fun a => absurd nI_0 a, fun a => absurd a o⟩
