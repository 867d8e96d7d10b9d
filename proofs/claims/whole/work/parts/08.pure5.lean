/-! fill: the class's ints and the model's longs -/
def cf_u (x : Int64) : Nat := x.toUInt64.toNat
theorem cf_u_lt (x : Int64) : cf_u x < 18446744073709551616 := x.toUInt64.toNat_lt
theorem cf_u_inj {x y : Int64} (h : cf_u x = cf_u y) : x = y := congrArg UInt64.toInt64 (UInt64.toNat_inj.mp h)
theorem cf_u_add (x y : Int64) : cf_u (x + y) = (cf_u x + cf_u y) % 18446744073709551616 := by
  show (x.toUInt64 + y.toUInt64).toNat = _
  exact UInt64.toNat_add _ _
theorem cf_u_mul (x y : Int64) : cf_u (x * y) = (cf_u x * cf_u y) % 18446744073709551616 := by
  show (x.toUInt64 * y.toUInt64).toNat = _
  exact UInt64.toNat_mul _ _
theorem cf_u_lo (x : Int64) : cf_u (x &&& 4294967295) = cf_u x % 4294967296 := by
  show (x.toUInt64 &&& 4294967295).toNat = _
  rw [UInt64.toNat_and]
  exact Nat.and_two_pow_sub_one_eq_mod _ 32
theorem cf_u_lN {n : Nat} (h : n < 18446744073709551616) : cf_u (lN n) = n := by
  show (BitVec.ofNat 64 n).toNat = n
  rw [BitVec.toNat_ofNat]
  exact Nat.mod_eq_of_lt h
theorem cf_u_i (x : Int32) : cf_u x.toInt64 % 4294967296 = x.toBitVec.toNat := by
  have h : x.toInt64.toInt32 = x := Int32.toInt32_toInt64 x
  have h2 : x.toInt64.toInt32.toBitVec.toNat = x.toInt64.toBitVec.toNat % 4294967296 := by
    show (x.toInt64.toBitVec.signExtend 32).toNat = _
    rw [BitVec.signExtend_eq_setWidth_of_le _ (by omega), BitVec.toNat_setWidth]
  rw [h] at h2
  exact h2.symm
/-- the number behind a seed and a place -/
def cf_fn (seed : Int32) (k : Nat) : Nat := ((seed.toBitVec.toNat + k * 40503) % 4294967296 * 2654435761) % 4294967296
theorem cf_fn_lt (seed : Int32) (k : Nat) : cf_fn seed k < 4294967296 := Nat.mod_lt _ (by decide)
theorem cf_fnL (seed : Int32) {k : Nat} (hk : k < 4096) : ((seed.toInt64 + (nI k).toInt64 * 40503) &&& 4294967295) * 2654435761 &&& 4294967295 = lN (cf_fn seed k) := by
  apply cf_u_inj
  rw [cf_u_lN (by have := cf_fn_lt seed k; omega), cf_u_lo, cf_u_mul, cf_u_lo, cf_u_add, cf_u_mul]
  have e1 : cf_u (2654435761 : Int64) = 2654435761 := by decide +kernel
  have e2 : cf_u (40503 : Int64) = 40503 := by decide +kernel
  have e3 : cf_u (nI k).toInt64 = k := by
    rw [nI_l (by omega)]
    exact cf_u_lN (by omega)
  have e4 := cf_u_i seed
  rw [e1, e2, e3]
  unfold cf_fn
  rw [← e4]
  have b1 : k * 40503 % 18446744073709551616 = k * 40503 := Nat.mod_eq_of_lt (by omega)
  rw [b1]
  have e5 : (cf_u seed.toInt64 + k * 40503) % 18446744073709551616 % 4294967296 = (cf_u seed.toInt64 % 4294967296 + k * 40503) % 4294967296 := by omega
  rw [e5]
  generalize (cf_u seed.toInt64 % 4294967296 + k * 40503) % 4294967296 = z
  rw [Nat.mod_mod_of_dvd]
  decide
theorem cf_fnI (seed : Int32) (k : Nat) : ((seed + nI k * nI 40503) * (-1640531535)).toBitVec.toNat = cf_fn seed k := by
  have e1 : (-1640531535 : Int32).toBitVec.toNat = 2654435761 := by decide +kernel
  show ((seed.toBitVec + (nI k).toBitVec * (nI 40503).toBitVec) * (-1640531535 : Int32).toBitVec).toNat = _
  rw [BitVec.toNat_mul, e1, BitVec.toNat_add, BitVec.toNat_mul]
  have e2 : (nI k).toBitVec.toNat = k % 4294967296 := BitVec.toNat_ofNat _ _
  have e3 : (nI 40503).toBitVec.toNat = 40503 := by decide +kernel
  rw [e2, e3]
  unfold cf_fn
  show (seed.toBitVec.toNat + k % 4294967296 * 40503 % 4294967296) % 4294967296 * 2654435761 % 4294967296 = _
  have e4 : (seed.toBitVec.toNat + k % 4294967296 * 40503 % 4294967296) % 4294967296 = (seed.toBitVec.toNat + k * 40503) % 4294967296 := by omega
  rw [e4]
theorem cf_fil_n (seed : Int32) (k : Nat) : cf_fil seed k = nI (cf_fn seed k / 1048576 % 2047) - nI 1023 := by
  unfold cf_fil
  have e : (((seed + nI k * nI 40503) * (-1640531535)).toUInt32 >>> ((nI 20).toUInt32 &&& Int32.toUInt32 31)).toInt32 = nI (cf_fn seed k / 1048576) := by
    apply Int32.toBitVec_inj.mp
    apply BitVec.eq_of_toNat_eq
    rw [pk_ushr _ _ 20 (by decide +kernel), cf_fnI]
    have := cf_fn_lt seed k
    rw [show (nI (cf_fn seed k / 1048576)).toBitVec.toNat = (cf_fn seed k / 1048576) % 4294967296 from BitVec.toNat_ofNat _ _]
    omega
  rw [e]
  have := cf_fn_lt seed k
  rw [pk_rem (by omega) (by omega) (by omega)]
theorem cf_sh20 {n : Nat} (h : n < 4294967296) : lN n >>> ((nI 20).toInt64 &&& 63) = lN (n / 1048576) := by
  have hs : (((nI 20).toInt64 &&& 63).toBitVec.smod 64).toNat = 20 := by decide +kernel
  apply Int64.toInt_inj.mp
  show ((lN n).toBitVec.sshiftRight (((nI 20).toInt64 &&& 63).toBitVec.smod 64).toNat).toInt = _
  rw [hs, BitVec.toInt_sshiftRight]
  show (lN n).toInt >>> 20 = _
  rw [pk_lT (by omega), pk_lT (by omega), Int.shiftRight_eq_div_pow]
  omega
theorem cf_fiL_eq (seed : Int32) {k : Nat} (hk : k < 4096) : ((((seed.toInt64 + (nI k).toInt64 * 40503) &&& 4294967295) * 2654435761 &&& 4294967295) >>> ((nI 20).toInt64 &&& 63) - (((seed.toInt64 + (nI k).toInt64 * 40503) &&& 4294967295) * 2654435761 &&& 4294967295) >>> ((nI 20).toInt64 &&& 63) / 2047 * 2047).toInt32 - nI 1023 = cf_fil seed k := by
  have hN := cf_fn_lt seed k
  rw [cf_fnL seed hk, cf_sh20 hN, cf_fil_n]
  have e : lN (cf_fn seed k / 1048576) - lN (cf_fn seed k / 1048576) / 2047 * 2047 = lN (cf_fn seed k / 1048576 % 2047) := pk_lRem (b := 2047) (by omega) (by omega) (by omega)
  rw [e, lN_i]
theorem cf_m16 (x : Int32) : (x &&& nI 65535).toInt64 = x.toInt64 &&& 65535 := by
  apply cf_u_inj
  have a : cf_u (x.toInt64 &&& 65535) = cf_u x.toInt64 % 65536 := by
    show (x.toInt64.toUInt64 &&& 65535).toNat = _
    rw [UInt64.toNat_and]
    exact Nat.and_two_pow_sub_one_eq_mod _ 16
  have b : x &&& nI 65535 = nI (x.toBitVec.toNat % 65536) := pk_and x 16 (by decide +kernel)
  rw [a, b, nI_l (by omega), cf_u_lN (by omega), ← cf_u_i x]
  omega
theorem cf_su_c (w h : Nat) (f : Nat → Int32) (j : Nat) : cf_fo (fun (a : Int64) y => cf_fo (fun (a : Int64) x => a + (f (64 * (8 * y + x) + j)).toInt64 * (nI (1 + x + 8 * y)).toInt64) w a) h 0 = cf_su w h (cf_V f) j := by
  unfold cf_su
  refine cf_fo_congr h (fun a y _ => cf_fo_congr w (fun a x _ => ?_))
  rw [Int64.mul_comm]
  rfl
/-! floorMod by 4, as the library's code goes -/
theorem cf_x4 (q : Int32) : (q ^^^ nI 4).toInt < 0 ↔ q.toInt < 0 := by
  have h1 : (q ^^^ nI 4).toBitVec.msb = q.toBitVec.msb := by
    show (q.toBitVec ^^^ (nI 4).toBitVec).msb = _
    rw [BitVec.msb_xor]
    have : (nI 4).toBitVec.msb = false := by decide +kernel
    rw [this]
    simp
  rw [BitVec.msb_eq_toInt, BitVec.msb_eq_toInt] at h1
  have h2 : decide ((q ^^^ nI 4).toInt < 0) = decide (q.toInt < 0) := h1
  exact decide_eq_decide.mp h2
theorem cf_fm_m (q : Int32) : (q - q / nI 4 * nI 4).toInt = q.toInt.tmod 4 := by
  have r := rem_toInt q (nI 4)
  rw [nI_toInt (by omega)] at r
  exact r
theorem cf_fmA {q : Int32} (h : 0 ≤ q ^^^ nI 4) : q - q / nI 4 * nI 4 = nI (cf_qn q) := by
  rw [← (cf_qn_c q).1]
  show _ = fmOf (q - q / nI 4 * nI 4) (nI 4)
  unfold fmOf
  rw [if_pos]
  rw [Int32.le_iff_toInt_le, Int32.toInt_zero] at *
  rw [cf_fm_m]
  have : ¬ q.toInt < 0 := fun a => by have := (cf_x4 q).mpr a; omega
  exact Int.tmod_nonneg 4 (by omega)
theorem cf_fmB {q : Int32} (h : q - q / nI 4 * nI 4 = 0) : q - q / nI 4 * nI 4 = nI (cf_qn q) := by
  rw [← (cf_qn_c q).1]
  show _ = fmOf (q - q / nI 4 * nI 4) (nI 4)
  rw [h]
  rfl
theorem cf_fmC {q : Int32} (h : ¬ 0 ≤ q ^^^ nI 4) (h2 : ¬ q - q / nI 4 * nI 4 = 0) : q - q / nI 4 * nI 4 + nI 4 = nI (cf_qn q) := by
  rw [← (cf_qn_c q).1]
  show _ = fmOf (q - q / nI 4 * nI 4) (nI 4)
  unfold fmOf
  rw [if_neg]
  intro a
  apply h2
  rw [Int32.le_iff_toInt_le, Int32.toInt_zero] at *
  have e := cf_fm_m q
  have hn : q.toInt < 0 := (cf_x4 q).mp (by omega)
  have : q.toInt.tmod 4 ≤ 0 := by
    have e1 : q.toInt.tmod 4 = -((-q.toInt).tmod 4) := by rw [Int.neg_tmod, Int.neg_neg]
    rw [e1]
    have := Int.tmod_nonneg (a := -q.toInt) 4 (by omega)
    omega
  apply Int32.toInt_inj.mp
  rw [Int32.toInt_zero]
  omega
