/-! THE CLAIM OUT OF ONE WALK OF THE LAW'S BODY. Your part is whole_start (and what it stands on); all else here is the same for every law, but numbers. -/
def R_law : String := "CoefTurnsLaw"
def lw_P (b : Addr) (xs : List Int32) (args : Array Value) (s : State) : Prop := args = #[.ref b] ∧ s.IntsAt b xs ∧ xs.length ≤ 2562 ∧ (Jvm.Cond.and given_1 narrow_1).before args s = true
def lw_Q (_ : Array Value) (s : State) (o : Outcome) (t : State) : Prop := o = .returned (some (.int 1)) ∧ Framed s o t [] 1035 28705
def lw_Z (below : List Frame) (a : Array Value) (s : State) : State → Prop := fun t => ∃ o, t.status = .running ∧ Ended t below o ∧ lw_Q a s o t
/-- the law's own end, with 1 on the stack, nothing written that was there before, its room as the claim has it -/
theorem lw_ret {p : Program} {l : Launch} {e : Env} {s : State} {m : MethodId} {below : List Frame} {meth : Method} {c : Code} {b : Nat} (hx : p.tables.exec = Jvm.exec) (hb : c.code = code) (hr : meth.sig.returnType = ret) (hlocks : meth.locks = false) {pc : Nat} {H : Heap} {ls : Array Slot} (hdg : decode code pc = .ok (.ireturn, 1)) : W p l e room_1 s m #[Value.ref b] below meth c H [] 1035 28705 (lw_Z below #[Value.ref b] s) (F0 m pc ls [.int 1]) := by
  intro T hT X
  obtain ⟨fs, hret, hrun, hended, hW, hframe⟩ := X.leave (v := some (.int 1)) (hlocks := hlocks) (fun h => by rw [hr] at h; cases h)
  have hmeth' : T.vm.method? m = some meth := X.method'
  refine ⟨T.setFrames fs, ?_, .returned (some (.int 1)), hrun, hended, rfl, ⟨_, rfl⟩, hW, hframe⟩
  jvm_step X.here [X.here.top, hx, hb, hdg, hmeth', hr, ret, narrow_b1]
  (try refine ⟨rfl, ?_⟩); (try refine ⟨rfl, ?_⟩)
  first | (intro acts; rw [hret _ acts rfl rfl rfl]) | rw [hret _ _ rfl rfl rfl]
  exact Steps.refl _
/-- what holds at the law's entry: the machine, the code, the tables' words (any of lw_tbl by 'hts w (by decide +kernel)'), the script of L ints xs at the cell b, what the Statement gives of the start (any of its parts by flat_of_before) -/
def lw_At (p : Program) (s : State) (m : MethodId) (meth : Method) (c : Code) (b L : Nat) (xs : Nat → Int32) : Prop :=
  p.tables.exec = Jvm.exec ∧ c.code = code ∧ meth.sig.returnType = ret ∧ c.maxLocals = 8 ∧ s.vm.findClass R_law = some m.cls ∧ (∀ w ∈ lw_tbl, w.before #[Value.ref b] s = true) ∧ va_X b L xs s s.heap ∧ b < s.heap.size ∧ meth.locks = false ∧ (Jvm.Cond.and given_1 narrow_1).before #[Value.ref b] s = true
/-! THE LAW: what holds at its loop's head: the class and the reference show one plane and one kept plane -/
def lw_ok (w h kw kh : Nat) (f g f2 g2 : Nat → Int32) : Prop := (1 ≤ w ∧ w ≤ 8 ∧ 1 ≤ h ∧ h ≤ 8 ∧ 1 ≤ kw ∧ kw ≤ 8 ∧ 1 ≤ kh ∧ kh ≤ 8) ∧ cf_Ag w h (cf_V f) (cf_V f2) ∧ cf_Ag kw kh (cf_V g) (cf_V g2)
def lw_K (p : Program) (l : Launch) (e : Env) (s : State) (m : MethodId) (below : List Frame) (meth : Method) (c : Code) (dC : Nat → ClassId) (dI : Nat → Nat → Nat) (h0 a1 a2 : Nat) (cA cB : ClassId) (o b1 b2 b3 : Nat) (cC cD cE : ClassId) (q3 : Nat) (cJ : ClassId) (b pc i ca sl : Nat) : Prop :=
  ∀ (f g f2 g2 md : Nat → Int32) (th : Int32) (fo : Nat → Int64) (w h kw kh : Nat) (H : Heap) (locs : List Loc) (ls : Array Slot), lw_ok w h kw kh f g f2 g2 → va_P (dC, dI) vwCm [(h0, .inr (0, [.ref a1, .ref a2, .int (nI w), .int (nI h), .int (nI kw), .int (nI kh)])), (a1, .inl (cA, 4096, .inl f)), (a2, .inl (cB, 4096, .inl g)), (o, .inr (1, [.int th, .int (nI w), .int (nI h), .int (nI kw), .int (nI kh), .ref b1, .ref b2, .ref b3])), (b1, .inl (cC, 4096, .inl f2)), (b2, .inl (cD, 4096, .inl g2)), (b3, .inl (cE, 4096, .inl md)), (q3, .inl (cJ, 1, .inr (.inl fo)))] H → va_D (fun q : Nat => s.heap.size ≤ q) [(h0, .inr (0, [.ref a1, .ref a2, .int (nI w), .int (nI h), .int (nI kw), .int (nI kh)])), (a1, .inl (cA, 4096, .inl f)), (a2, .inl (cB, 4096, .inl g)), (o, .inr (1, [.int th, .int (nI w), .int (nI h), .int (nI kw), .int (nI kh), .ref b1, .ref b2, .ref b3])), (b1, .inl (cC, 4096, .inl f2)), (b2, .inl (cD, 4096, .inl g2)), (b3, .inl (cE, 4096, .inl md)), (q3, .inl (cJ, 1, .inr (.inl fo)))] → va_S (fun q : Nat => s.heap.size ≤ q) s.heap H locs → lv_has ls 8 [(0, .ref b), (1, .ref h0), (2, .ref o), (3, .ref q3), (4, .int (nI i))] → W p l e room_1 s m #[Value.ref b] below meth c H locs ca sl (lw_Z below #[Value.ref b] s) (F0 m pc ls [])
theorem lw_cmp0 {x y : Int64} (h : x = y) : lg_cmp x y = 0 := by
  subst h
  unfold lg_cmp
  rw [if_neg (by rw [gt_iff_lt, Int64.lt_iff_toInt_lt]; omega), if_pos rfl]
theorem cf_lk_ag {w h kw kh : Nat} {G G' : cf_G} (a : cf_Ag w h G G') (i : Int32) : cf_lk w h kw kh G i = cf_lk w h kw kh G' i := by
  unfold cf_lk
  rw [cf_nz_ag a, cf_mo_ag a]
theorem lw_if {c : Prop} [Decidable c] {x a b : Nat} (e : x = if c then a else b) (ha : 1 ≤ a ∧ a ≤ 8) (hb : 1 ≤ b ∧ b ≤ 8) : 1 ≤ x ∧ x ≤ 8 := by
  rw [e]
  by_cases h : c
  · rw [if_pos h]; exact ha
  · rw [if_neg h]; exact hb
