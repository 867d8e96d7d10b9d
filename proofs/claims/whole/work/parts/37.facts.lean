set_option maxHeartbeats 4000000 in
set_option maxRecDepth 100000 in
/-- what the start gives of a String constant -/
theorem lw_str {s : State} {b : Nat} {i : Nat} {tx : String} (h1 : (Cond.stringRef RX0 i tx).before #[Value.ref b] s = true) (h2 : (Cond.exactly (.string RX0 i) "java/lang/String").before #[Value.ref b] s = true) : ∃ sa, vk_R RX0 i tx sa s := by
  obtain ⟨a, c, cA, kA, q1, -⟩ := Cond.exactly_spec (args := #[Value.ref b]) (first := s) (o := none) (s := s) (idx := []) (t := .string RX0 i) (cls := "java/lang/String") h2
  exact ⟨a, vk_R.of h1 q1⟩
/-- what the start gives of String constants, declared methods, casts -/
theorem lw_Xf {s : State} {b : Nat} (hts : ∀ w ∈ lw_tbl, w.before #[Value.ref b] s = true) (hfl : ∀ w ∈ flatC (Jvm.Cond.and given_1 narrow_1), w.before #[Value.ref b] s = true) : ∃ sa1 sa2 sa3, cf_Xf sa1 sa2 sa3 s := by
  obtain ⟨sa1, hk1⟩ := lw_str (hts (.stringRef RX0 43 "no such block or place") (by decide +kernel)) (hfl (.exactly (.string RX0 43) "java/lang/String") (by decide +kernel))
  obtain ⟨sa2, hk2⟩ := lw_str (hts (.stringRef RX0 50 "a coefficient is -32767 .. 32767") (by decide +kernel)) (hfl (.exactly (.string RX0 50) "java/lang/String") (by decide +kernel))
  obtain ⟨sa3, hk3⟩ := lw_str (hts (.stringRef RX0 98 "no such place") (by decide +kernel)) (hfl (.exactly (.string RX0 98) "java/lang/String") (by decide +kernel))
  exact ⟨sa1, sa2, sa3, ⟨va_Nw.of rfl (hts (.declares (Bundle.initS "java/lang/RuntimeException")) (by decide +kernel)), va_Nw.of rfl (hts (.declares (Bundle.initS "java/lang/Exception")) (by decide +kernel)), va_Nw.of rfl (hts (.declares (Bundle.initS Bundle.tN)) (by decide +kernel)), va_Nw.of rfl (hts (.castable "java/lang/IndexOutOfBoundsException" "java/lang/IndexOutOfBoundsException") (by decide +kernel)), va_Nw.of rfl (hts (.castable "java/lang/IllegalArgumentException" "java/lang/IllegalArgumentException") (by decide +kernel))⟩, hk1, hk2, hk3⟩
theorem lw_Zf {s : State} {b : Nat} (hts : ∀ w ∈ lw_tbl, w.before #[Value.ref b] s = true) (hfl : ∀ w ∈ flatC (Jvm.Cond.and given_1 narrow_1), w.before #[Value.ref b] s = true) : cf_Zf (fun q : Nat => s.heap.size ≤ q) s s.heap :=
  ⟨vx_Zqof (hts (.laysStatic Bundle.tN "UNASSIGNED_STACK" Bundle.steD) (by decide +kernel)) (hts (.initialized Bundle.tN) (by decide +kernel)) (hfl (.isRef (.static Bundle.tN "UNASSIGNED_STACK" Bundle.steD)) (by decide +kernel)) (fun a h => Nat.not_le.mpr h), vx_Zqof (hts (.laysStatic Bundle.tN "SUPPRESSED_SENTINEL" Bundle.listD) (by decide +kernel)) (hts (.initialized Bundle.tN) (by decide +kernel)) (hfl (.isRef (.static Bundle.tN "SUPPRESSED_SENTINEL" Bundle.listD)) (by decide +kernel)) (fun a h => Nat.not_le.mpr h)⟩
