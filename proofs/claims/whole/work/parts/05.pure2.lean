/-! a triangle of exchanges: after rows v0 and u0 of row v0 the pair (a, b) has been exchanged -/
def cf_td (v0 u0 a b : Nat) : Prop := (a < v0 ∧ b < v0) ∨ (a = v0 ∧ b < u0) ∨ (b = v0 ∧ a < u0)
theorem cf_td_dec (v0 u0 a b : Nat) : cf_td v0 u0 a b ∨ ¬ cf_td v0 u0 a b := Classical.em _
/-- within one block i: coefficient (v, u) and (u, v) -/
def cf_tb (i v0 u0 : Nat) (f fc : Nat → Int32) : Prop := ∀ t v u, v < 8 → u < 8 → (t = i ∧ cf_td v0 u0 v u → fc (64 * t + (8 * v + u)) = f (64 * t + (8 * u + v))) ∧ (¬ (t = i ∧ cf_td v0 u0 v u) → fc (64 * t + (8 * v + u)) = f (64 * t + (8 * v + u)))
theorem cf_tb_0 {i : Nat} {f : Nat → Int32} : cf_tb i 1 0 f f := fun t v u h1 h2 => ⟨fun h => by
  have e : v = u := by have := h.2; unfold cf_td at this; omega
  rw [e], fun _ => rfl⟩
theorem cf_tb_s {i v0 u0 : Nat} {f fc : Nat → Int32} (h : cf_tb i v0 u0 f fc) (hv : v0 < 8) (hu : u0 < v0) : cf_tb i v0 (u0 + 1) f (upd (upd fc (64 * i + (8 * v0 + u0)) (fc (64 * i + (8 * u0 + v0)))) (64 * i + (8 * u0 + v0)) (fc (64 * i + (8 * v0 + u0)))) := by
  intro t v u h1 h2
  have ha := (h i v0 u0 hv (by omega)).2 (fun a => by have := a.2; unfold cf_td at this; omega)
  have hb := (h i u0 v0 (by omega) hv).2 (fun a => by have := a.2; unfold cf_td at this; omega)
  have ht := h t v u h1 h2
  unfold upd
  rw [ha, hb]
  by_cases e1 : t = i ∧ v = u0 ∧ u = v0
  · obtain ⟨rfl, rfl, rfl⟩ := e1
    rw [if_pos rfl]
    exact ⟨fun _ => rfl, fun a => absurd ⟨rfl, Or.inr (Or.inr ⟨rfl, by omega⟩)⟩ a⟩
  · rw [if_neg (by omega)]
    by_cases e2 : t = i ∧ v = v0 ∧ u = u0
    · obtain ⟨rfl, rfl, rfl⟩ := e2
      rw [if_pos rfl]
      exact ⟨fun _ => rfl, fun a => absurd ⟨rfl, Or.inr (Or.inl ⟨rfl, by omega⟩)⟩ a⟩
    · rw [if_neg (by omega)]
      refine ⟨fun a => ht.1 ⟨a.1, ?_⟩, fun a => ht.2 (fun b => a ⟨b.1, ?_⟩)⟩
      · have := a.2
        have := a.1
        unfold cf_td at *
        omega
      · have := b.2
        unfold cf_td at *
        omega
theorem cf_tb_r {i v0 u0 : Nat} {f fc : Nat → Int32} (h : cf_tb i v0 u0 f fc) (hu : u0 = v0) : cf_tb i (v0 + 1) 0 f fc := by
  intro t v u h1 h2
  have ht := h t v u h1 h2
  by_cases e : v = u
  · subst e
    exact ⟨fun a => (Classical.em (t = i ∧ cf_td v0 u0 v v)).elim ht.1 ht.2, fun a => (Classical.em (t = i ∧ cf_td v0 u0 v v)).elim ht.1 ht.2⟩
  · refine ⟨fun a => ht.1 ⟨a.1, ?_⟩, fun a => ht.2 (fun b => a ⟨b.1, ?_⟩)⟩
    · have := a.2
      unfold cf_td at *
      omega
    · have := b.2
      unfold cf_td at *
      omega
def cf_tB (i : Nat) (f f2 : Nat → Int32) : Prop := (∀ q, q < 64 → f2 (64 * i + q) = f (64 * i + (8 * (q % 8) + q / 8))) ∧ ∀ t q, q < 64 → t ≠ i → f2 (64 * t + q) = f (64 * t + q)
theorem cf_tb_e {i : Nat} {f fc : Nat → Int32} (h : cf_tb i 8 0 f fc) : cf_tB i f fc := by
  refine ⟨fun q hq => ?_, fun t q hq ht => ?_⟩
  · have e := (h i (q / 8) (q % 8) (by omega) (by omega)).1 ⟨rfl, Or.inl ⟨by omega, by omega⟩⟩
    have e1 : 8 * (q / 8) + q % 8 = q := by omega
    rw [e1] at e
    exact e
  · have e := (h t (q / 8) (q % 8) (by omega) (by omega)).2 (fun a => ht a.1)
    have e1 : 8 * (q / 8) + q % 8 = q := by omega
    rw [e1] at e
    exact e
/-- whole blocks across the diagonal -/
def cf_xd (v0 u0 : Nat) (f fc : Nat → Int32) : Prop := ∀ y x q, y < 8 → x < 8 → q < 64 → (cf_td v0 u0 y x → fc (64 * (8 * y + x) + q) = f (64 * (8 * x + y) + q)) ∧ (¬ cf_td v0 u0 y x → fc (64 * (8 * y + x) + q) = f (64 * (8 * y + x) + q))
theorem cf_xd_0 {f : Nat → Int32} : cf_xd 1 0 f f := fun y x q h1 h2 _ => ⟨fun h => by
  have e : y = x := by unfold cf_td at h; omega
  rw [e], fun _ => rfl⟩
theorem cf_xd_s {v0 u0 : Nat} {f fc f2 : Nat → Int32} (h : cf_xd v0 u0 f fc) (hv : v0 < 8) (hu : u0 < v0) (H : cf_xB fc f2 (8 * v0 + u0) (8 * u0 + v0)) : cf_xd v0 (u0 + 1) f f2 := by
  intro y x q h1 h2 hq
  have ha := (h v0 u0 q hv (by omega) hq).2 (fun a => by unfold cf_td at a; omega)
  have hb := (h u0 v0 q (by omega) hv hq).2 (fun a => by unfold cf_td at a; omega)
  have ht := h y x q h1 h2 hq
  rw [H (8 * y + x) q hq]
  unfold cf_sw
  by_cases e2 : y = v0 ∧ x = u0
  · obtain ⟨rfl, rfl⟩ := e2
    rw [if_pos rfl, hb]
    exact ⟨fun _ => rfl, fun a => absurd (Or.inr (Or.inl ⟨rfl, by omega⟩)) a⟩
  · rw [if_neg (by omega)]
    by_cases e1 : y = u0 ∧ x = v0
    · obtain ⟨rfl, rfl⟩ := e1
      rw [if_pos rfl, ha]
      exact ⟨fun _ => rfl, fun a => absurd (Or.inr (Or.inr ⟨rfl, by omega⟩)) a⟩
    · rw [if_neg (by omega)]
      refine ⟨fun a => ht.1 ?_, fun a => ht.2 (fun b => a ?_)⟩
      · unfold cf_td at *
        omega
      · unfold cf_td at *
        omega
theorem cf_xd_r {v0 u0 : Nat} {f fc : Nat → Int32} (h : cf_xd v0 u0 f fc) (hu : u0 = v0) : cf_xd (v0 + 1) 0 f fc := by
  intro y x q h1 h2 hq
  have ht := h y x q h1 h2 hq
  by_cases e : y = x
  · subst e
    exact ⟨fun a => (Classical.em (cf_td v0 u0 y y)).elim ht.1 ht.2, fun a => (Classical.em (cf_td v0 u0 y y)).elim ht.1 ht.2⟩
  · refine ⟨fun a => ht.1 ?_, fun a => ht.2 (fun b => a ?_)⟩
    · unfold cf_td at *
      omega
    · unfold cf_td at *
      omega
def cf_xD (n : Nat) (f f2 : Nat → Int32) : Prop := ∀ y x q, y < n → x < n → q < 64 → f2 (64 * (8 * y + x) + q) = f (64 * (8 * x + y) + q)
theorem cf_xd_e {n : Nat} {f fc : Nat → Int32} (h : cf_xd n 0 f fc) (hn : n ≤ 8) : cf_xD n f fc := fun y x q h1 h2 hq => (h y x q (by omega) (by omega) hq).1 (Or.inl ⟨h1, h2⟩)
/-- every block of W by H transposed within: rows y0, x0 of row y0 -/
def cf_ti (W y0 x0 : Nat) (f fc : Nat → Int32) : Prop := ∀ x y q, x < W → q < 64 → fc (64 * (8 * y + x) + q) = if y < y0 ∨ (y = y0 ∧ x < x0) then f (64 * (8 * y + x) + (8 * (q % 8) + q / 8)) else f (64 * (8 * y + x) + q)
theorem cf_ti_0 {W : Nat} {f : Nat → Int32} : cf_ti W 0 0 f f := fun x y q _ _ => by rw [if_neg (by omega)]
theorem cf_ti_s {W y0 x0 : Nat} {f fc f2 : Nat → Int32} (h : cf_ti W y0 x0 f fc) (hW : W ≤ 8) (hx : x0 < W) (H : cf_tB (8 * y0 + x0) fc f2) : cf_ti W y0 (x0 + 1) f f2 := by
  intro x y q g1 g2
  by_cases e : x = x0 ∧ y = y0
  · obtain ⟨rfl, rfl⟩ := e
    rw [H.1 q g2, h x y _ g1 (cf_q8 g2), if_neg (by omega), if_pos (by omega)]
  · rw [H.2 (8 * y + x) q g2 (by omega), h x y q g1 g2]
    by_cases e3 : y < y0 ∨ (y = y0 ∧ x < x0)
    · rw [if_pos e3, if_pos (by omega)]
    · rw [if_neg e3, if_neg (by omega)]
theorem cf_ti_r {W y0 x0 : Nat} {f fc : Nat → Int32} (h : cf_ti W y0 x0 f fc) (hx : x0 = W) : cf_ti W (y0 + 1) 0 f fc := by
  intro x y q g1 g2
  rw [h x y q g1 g2]
  by_cases e3 : y < y0 ∨ (y = y0 ∧ x < x0)
  · rw [if_pos e3, if_pos (by omega)]
  · rw [if_neg e3, if_neg (by omega)]
theorem cf_ti_e {w h n : Nat} {f f1 f2 : Nat → Int32} (H1 : cf_xD n f f1) (H2 : cf_ti h w 0 f1 f2) (hw : w ≤ n) (hh : h ≤ n) : cf_Ag h w (cf_V f2) (cf_tr (cf_V f)) := fun x y q g1 g2 g3 => by
  unfold cf_V cf_tr
  rw [H2 x y q g1 g3, if_pos (by omega), H1 y x _ (by omega) (by omega) (cf_q8 g3)]
/-! places filled in order: rows y0, then x0 blocks of row y0, then p0 places of block (x0, y0) hold F -/
def cf_dn (W y0 x0 p0 : Nat) (m : Nat → Int32) (F : cf_G) : Prop := ∀ x y q, x < W → q < 64 → (y < y0 ∨ (y = y0 ∧ (x < x0 ∨ (x = x0 ∧ q < p0)))) → m (64 * (8 * y + x) + q) = F x y q
theorem cf_dn_0 {W : Nat} {m : Nat → Int32} {F : cf_G} : cf_dn W 0 0 0 m F := fun x y q _ _ h => by omega
theorem cf_dn_s {W y0 x0 p0 : Nat} {m : Nat → Int32} {F : cf_G} {v : Int32} (h : cf_dn W y0 x0 p0 m F) (hW : W ≤ 8) (hx : x0 < W) (hp : p0 < 64) (hv : v = F x0 y0 p0) : cf_dn W y0 x0 (p0 + 1) (upd m (64 * (8 * y0 + x0) + p0) v) F := by
  intro x y q g1 g2 g3
  unfold upd
  by_cases e : 64 * (8 * y + x) + q = 64 * (8 * y0 + x0) + p0
  · obtain ⟨rfl, rfl, rfl⟩ : x = x0 ∧ y = y0 ∧ q = p0 := by omega
    rw [if_pos rfl, hv]
  · rw [if_neg e]
    exact h x y q g1 g2 (by omega)
theorem cf_dn_b {W y0 x0 p0 : Nat} {m : Nat → Int32} {F : cf_G} (h : cf_dn W y0 x0 p0 m F) (hp : p0 = 64) : cf_dn W y0 (x0 + 1) 0 m F := fun x y q g1 g2 g3 => h x y q g1 g2 (by omega)
theorem cf_dn_r {W y0 x0 : Nat} {m : Nat → Int32} {F : cf_G} (h : cf_dn W y0 x0 0 m F) (hx : x0 = W) : cf_dn W (y0 + 1) 0 0 m F := fun x y q g1 g2 g3 => h x y q g1 g2 (by omega)
theorem cf_dn_e {w h : Nat} {m : Nat → Int32} {F : cf_G} (H : cf_dn w h 0 0 m F) : cf_Ag w h (cf_V m) F := fun x y q g1 g2 g3 => H x y q g1 g3 (Or.inl g2)
/-- a block filled at once -/
def cf_fb (i : Nat) (v : Nat → Int32) (f f2 : Nat → Int32) : Prop := ∀ k, f2 k = if 64 * i ≤ k ∧ k < 64 * i + 64 then v k else f k
def cf_fk (i : Nat) (v : Nat → Int32) (k0 : Nat) (f fc : Nat → Int32) : Prop := ∀ k, fc k = if 64 * i ≤ k ∧ k < k0 then v k else f k
theorem cf_fk_0 {i : Nat} {v f : Nat → Int32} : cf_fk i v (64 * i) f f := fun k => by rw [if_neg (by omega)]
theorem cf_fk_s {i k0 : Nat} {v f fc : Nat → Int32} (h : cf_fk i v k0 f fc) (hk : 64 * i ≤ k0) : cf_fk i v (k0 + 1) f (upd fc k0 (v k0)) := fun k => by
  unfold upd
  by_cases e : k = k0
  · subst e
    rw [if_pos rfl, if_pos (by omega)]
  · rw [if_neg e, h k]
    by_cases e2 : 64 * i ≤ k ∧ k < k0
    · rw [if_pos e2, if_pos (by omega)]
    · rw [if_neg e2, if_neg (by omega)]
theorem cf_fb_dn {W y0 x0 : Nat} {v m m2 : Nat → Int32} (h : cf_dn W y0 x0 0 m (cf_V v)) (hW : W ≤ 8) (hx : x0 < W) (H : cf_fb (8 * y0 + x0) v m m2) : cf_dn W y0 (x0 + 1) 0 m2 (cf_V v) := by
  intro x y q g1 g2 g3
  rw [H]
  by_cases e : x = x0 ∧ y = y0
  · obtain ⟨rfl, rfl⟩ := e
    rw [if_pos (by omega)]
    rfl
  · rw [if_neg (by omega)]
    exact h x y q g1 g2 (by omega)
/-! the first k0 places copied -/
def cf_cp (k0 : Nat) (m fc : Nat → Int32) : Prop := ∀ k, k < k0 → fc k = m k
theorem cf_cp_0 {m f : Nat → Int32} : cf_cp 0 m f := fun k h => by omega
theorem cf_cp_s {k0 : Nat} {m fc : Nat → Int32} (h : cf_cp k0 m fc) : cf_cp (k0 + 1) m (upd fc k0 (m k0)) := fun k hk => by
  unfold upd
  by_cases e : k = k0
  · rw [if_pos e, e]
  · rw [if_neg e]
    exact h k (by omega)
theorem cf_cp_ag {w h : Nat} {m f : Nat → Int32} (H : cf_cp 4096 m f) (hw : w ≤ 8) (hh : h ≤ 8) : cf_Ag w h (cf_V f) (cf_V m) := fun x y q g1 g2 g3 => H _ (by omega)
/-! the class's crop: row by row -/
def cf_cw (X Y w y0 : Nat) (f fc : Nat → Int32) : Prop := (∀ k, 512 * y0 ≤ k → fc k = f k) ∧ ∀ x y q, x < w → y < y0 → q < 64 → fc (64 * (8 * y + x) + q) = f (64 * (8 * (Y + y) + (X + x)) + q)
theorem cf_cw_0 {X Y w : Nat} {f : Nat → Int32} : cf_cw X Y w 0 f f := ⟨fun _ _ => rfl, fun x y q _ h _ => by omega⟩
theorem cf_cw_s {X Y w y0 : Nat} {f fc : Nat → Int32} (h : cf_cw X Y w y0 f fc) (hw : X + w ≤ 8) : cf_cw X Y w (y0 + 1) f (va_cpy fc fc (64 * (8 * (Y + y0) + X)) (64 * (8 * y0 + 0)) (w * 64)) := by
  refine ⟨fun k hk => ?_, fun x y q g1 g2 g3 => ?_⟩
  · unfold va_cpy
    rw [if_neg (by omega)]
    exact h.1 k (by omega)
  · unfold va_cpy
    by_cases e : y = y0
    · subst e
      rw [if_pos (by omega), h.1 _ (by omega)]
      congr 1
      omega
    · rw [if_neg (by omega)]
      exact h.2 x y q g1 (by omega) g3
theorem cf_cw_e {X Y w h : Nat} {f fc : Nat → Int32} (H : cf_cw X Y w h f fc) : cf_Ag w h (cf_V fc) (cf_cr X Y (cf_V f)) := fun x y q g1 g2 g3 => H.2 x y q g1 g2 g3
/-! folds -/
def cf_fo {S : Type} (st : S → Nat → S) : Nat → S → S
  | 0, a => a
  | n + 1, a => st (cf_fo st n a) n
theorem cf_fo_add {S : Type} (st : S → Nat → S) (m : Nat) (a : S) : ∀ n, cf_fo st (m + n) a = cf_fo (fun a j => st a (m + j)) n (cf_fo st m a)
  | 0 => rfl
  | n + 1 => by
    show st (cf_fo st (m + n) a) (m + n) = st (cf_fo (fun a j => st a (m + j)) n (cf_fo st m a)) (m + n)
    rw [cf_fo_add st m a n]
theorem cf_fo_mul {S : Type} (st : S → Nat → S) (a : S) : ∀ w, cf_fo st (64 * w) a = cf_fo (fun a x => cf_fo (fun a q => st a (64 * x + q)) 64 a) w a
  | 0 => rfl
  | w + 1 => by
    rw [show 64 * (w + 1) = 64 * w + 64 by omega, cf_fo_add, cf_fo_mul st a w]
    rfl
theorem cf_fo_congr {S : Type} {st st' : S → Nat → S} {a : S} : ∀ n, (∀ a j, j < n → st a j = st' a j) → cf_fo st n a = cf_fo st' n a
  | 0, _ => rfl
  | n + 1, h => by
    show st (cf_fo st n a) n = st' (cf_fo st' n a) n
    rw [cf_fo_congr n (fun a j hj => h a j (by omega)), h _ n (by omega)]
/-- over the plane, row by row, block by block, place by place -/
def cf_all {S : Type} (w h : Nat) (st : S → Nat → Nat → Nat → S) (a : S) : S := cf_fo (fun a y => cf_fo (fun a x => cf_fo (fun a q => st a x y q) 64 a) w a) h a
theorem cf_all_lin {S : Type} (w h : Nat) (st : S → Nat → S) (a : S) : cf_fo (fun a y => cf_fo (fun a j => st a (512 * y + j)) (64 * w) a) h a = cf_all w h (fun a x y q => st a (64 * (8 * y + x) + q)) a := by
  unfold cf_all
  refine cf_fo_congr h (fun a y _ => ?_)
  rw [cf_fo_mul]
  refine cf_fo_congr w (fun a x _ => cf_fo_congr 64 (fun a q _ => ?_))
  rw [show 512 * y + (64 * x + q) = 64 * (8 * y + x) + q by omega]
theorem cf_all_congr {S : Type} {w h : Nat} {st st' : S → Nat → Nat → Nat → S} {a : S} (H : ∀ a x y q, x < w → y < h → q < 64 → st a x y q = st' a x y q) : cf_all w h st a = cf_all w h st' a :=
  cf_fo_congr h (fun a y hy => cf_fo_congr w (fun a x hx => cf_fo_congr 64 (fun a q hq => H a x y q hx hy hq)))
def cf_df (w h : Nat) (G K : cf_G) : Int32 := cf_all w h (fun a x y q => if G x y q = K x y q then a else a + 1) 0
def cf_nz (w h : Nat) (G : cf_G) : Int32 := cf_all w h (fun a x y q => if G x y q = 0 then a else a + 1) 0
def cf_ms (a v : Int32) : Int32 := if a < v then v else if a < -v then -v else a
def cf_mo (w h : Nat) (G : cf_G) : Int32 := cf_all w h (fun a x y q => cf_ms a (G x y q)) 0
def cf_su (w h : Nat) (G : cf_G) (q : Nat) : Int64 := cf_fo (fun a y => cf_fo (fun a x => a + (nI (1 + x + 8 * y)).toInt64 * (G x y q).toInt64) w a) h 0
def cf_fr (G : cf_G) (x y b : Nat) : Int64 := cf_fo (fun a k => (a <<< ((nI 16).toInt64 &&& 63)) ||| ((G x y (b + k)) &&& nI 65535).toInt64) 4 0
theorem cf_df_ag {w h : Nat} {G G' K K' : cf_G} (a : cf_Ag w h G G') (b : cf_Ag w h K K') : cf_df w h G K = cf_df w h G' K' := cf_all_congr (fun c x y q h1 h2 h3 => by rw [a x y q h1 h2 h3, b x y q h1 h2 h3])
theorem cf_nz_ag {w h : Nat} {G G' : cf_G} (a : cf_Ag w h G G') : cf_nz w h G = cf_nz w h G' := cf_all_congr (fun c x y q h1 h2 h3 => by rw [a x y q h1 h2 h3])
theorem cf_mo_ag {w h : Nat} {G G' : cf_G} (a : cf_Ag w h G G') : cf_mo w h G = cf_mo w h G' := cf_all_congr (fun c x y q h1 h2 h3 => by rw [a x y q h1 h2 h3])
theorem cf_su_ag {w h q : Nat} {G G' : cf_G} (a : cf_Ag w h G G') (hq : q < 64) : cf_su w h G q = cf_su w h G' q := cf_fo_congr h (fun c y hy => cf_fo_congr w (fun c x hx => by rw [a x y q hx hy hq]))
theorem cf_fr_ag {w h x y b : Nat} {G G' : cf_G} (a : cf_Ag w h G G') (hx : x < w) (hy : y < h) (hb : b + 4 ≤ 64) : cf_fr G x y b = cf_fr G' x y b := cf_fo_congr 4 (fun c k hk => by rw [a x y (b + k) hx hy (by omega)])
theorem cf_ms_pos {a v : Int32} (h : 0 ≤ a) : 0 ≤ cf_ms a v := by
  unfold cf_ms
  by_cases h1 : a < v
  · rw [if_pos h1]
    rw [Int32.le_iff_toInt_le] at *
    rw [Int32.lt_iff_toInt_lt] at h1
    omega
  · rw [if_neg h1]
    by_cases h2 : a < -v
    · rw [if_pos h2]
      rw [Int32.le_iff_toInt_le] at *
      rw [Int32.lt_iff_toInt_lt] at h2
      omega
    · rw [if_neg h2]
      exact h
