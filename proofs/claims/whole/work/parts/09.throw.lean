/-! what the throwing methods take of the tables beside their words: no word that a call keeps by itself -/
def cf_BIO : List Cond := [.declares (Bundle.initS "java/lang/RuntimeException"), .declares (Bundle.initS "java/lang/Exception"), .declares (Bundle.initS Bundle.tN), .castable "java/lang/IndexOutOfBoundsException" "java/lang/IndexOutOfBoundsException"]
def cf_BIA : List Cond := [.declares (Bundle.initS "java/lang/RuntimeException"), .declares (Bundle.initS "java/lang/Exception"), .declares (Bundle.initS Bundle.tN), .castable "java/lang/IllegalArgumentException" "java/lang/IllegalArgumentException"]
def cf_Xf (sa1 sa2 sa3 : Nat) (U : State) : Prop :=
  (va_Nw (.declares (Bundle.initS "java/lang/RuntimeException")) U ∧ va_Nw (.declares (Bundle.initS "java/lang/Exception")) U ∧ va_Nw (.declares (Bundle.initS Bundle.tN)) U ∧ va_Nw (.castable "java/lang/IndexOutOfBoundsException" "java/lang/IndexOutOfBoundsException") U ∧ va_Nw (.castable "java/lang/IllegalArgumentException" "java/lang/IllegalArgumentException") U) ∧
  vk_R RX0 43 "no such block or place" sa1 U ∧ vk_R RX0 50 "a coefficient is -32767 .. 32767" sa2 U ∧ vk_R RX0 98 "no such place" sa3 U
theorem cf_Xf.bio {sa1 sa2 sa3 : Nat} {s : State} (h : cf_Xf sa1 sa2 sa3 s) (args : Array Value) : ∀ w ∈ cf_BIO, w.before args s = true :=
  vx_c (va_Nw.use rfl h.1.1) (vx_c (va_Nw.use rfl h.1.2.1) (vx_c (va_Nw.use rfl h.1.2.2.1) (vx_c (va_Nw.use rfl h.1.2.2.2.1) vx_n)))
theorem cf_Xf.bia {sa1 sa2 sa3 : Nat} {s : State} (h : cf_Xf sa1 sa2 sa3 s) (args : Array Value) : ∀ w ∈ cf_BIA, w.before args s = true :=
  vx_c (va_Nw.use rfl h.1.1) (vx_c (va_Nw.use rfl h.1.2.1) (vx_c (va_Nw.use rfl h.1.2.2.1) (vx_c (va_Nw.use rfl h.1.2.2.2.2) vx_n)))
theorem cf_Xf.same {sa1 sa2 sa3 : Nat} {u U : State} (hv : U.vm = u.vm) (h : cf_Xf sa1 sa2 sa3 u) : cf_Xf sa1 sa2 sa3 U :=
  ⟨⟨va_Nw.same rfl hv.symm h.1.1, va_Nw.same rfl hv.symm h.1.2.1, va_Nw.same rfl hv.symm h.1.2.2.1, va_Nw.same rfl hv.symm h.1.2.2.2.1, va_Nw.same rfl hv.symm h.1.2.2.2.2⟩, vk_R.same hv h.2.1, vk_R.same hv h.2.2.1, vk_R.same hv h.2.2.2⟩
theorem cf_Xf.warm {sa1 sa2 sa3 : Nat} {s U : State} (hW : s.WarmedH U.vm) (h : cf_Xf sa1 sa2 sa3 s) : cf_Xf sa1 sa2 sa3 U :=
  ⟨⟨va_Nw.warmD hW h.1.1, va_Nw.warmD hW h.1.2.1, va_Nw.warmD hW h.1.2.2.1, va_Nw.warmC hW h.1.2.2.2.1, va_Nw.warmC hW h.1.2.2.2.2⟩, vk_R.warm hW h.2.1, vk_R.warm hW h.2.2.1, vk_R.warm hW h.2.2.2⟩
def cf_Zf (A : Nat → Prop) (U : State) (H : Heap) : Prop := vx_Zq Bundle.tN "UNASSIGNED_STACK" Bundle.steD A U H ∧ vx_Zq Bundle.tN "SUPPRESSED_SENTINEL" Bundle.listD A U H
theorem cf_Zf.moved {A : Nat → Prop} {u U : State} {H : Heap} (hvm : u.vm.Alike U.vm) (h : cf_Zf A u H) : cf_Zf A U H := ⟨vx_Zq.moved hvm h.1, vx_Zq.moved hvm h.2⟩
theorem cf_Zf.kept {A : Nat → Prop} {U : State} {H H1 : Heap} (h : cf_Zf A U H) (hq : ∀ a : Nat, a < H.size → ¬ A a → H1[a]? = H[a]?) : cf_Zf A U H1 := ⟨vx_Zq.kept h.1 hq, vx_Zq.kept h.2 hq⟩
theorem cf_Zf.narrow {A B : Nat → Prop} {U : State} {H : Heap} (h : cf_Zf A U H) (hAB : ∀ q, B q → A q) : cf_Zf B U H := ⟨vx_Zq.narrow h.1 hAB, vx_Zq.narrow h.2 hAB⟩
