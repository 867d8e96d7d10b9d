section
-- ===== PART A: goes FIRST, ahead of the names: the tables' words, and 'selects' of the private methods out of them =====
/-- a private method of a class that the tables say can be made, by its rows of tables_1 -/
def lw_okq (q : MethodName × Nat) : Prop := (q.1.cls ≠ "java/lang/invoke/MethodHandle" ∧ q.1.cls ≠ "java/lang/invoke/VarHandle") ∧ Cond.instantiable q.1.cls q.2 ∈ tables_1 ∧ Cond.privateMethod q.1 ∈ tables_1 ∧ Cond.instanceMethod q.1 ∈ tables_1
theorem lw_p0 : lw_okq (⟨"CoefTurns", "fillBlock", "(II)V"⟩, 6) := ⟨⟨by decide +kernel, by decide +kernel⟩, List.mem_of_getElem? (i := 11) (by decide +kernel), List.mem_of_getElem? (i := 55) (by decide +kernel), List.mem_of_getElem? (i := 56) (by decide +kernel)⟩
theorem lw_p1 : lw_okq (⟨"CoefTurns", "exchangeAcrossDiagonal", "(I)V"⟩, 6) := ⟨⟨by decide +kernel, by decide +kernel⟩, List.mem_of_getElem? (i := 11) (by decide +kernel), List.mem_of_getElem? (i := 65) (by decide +kernel), List.mem_of_getElem? (i := 66) (by decide +kernel)⟩
theorem lw_p2 : lw_okq (⟨"CoefTurns", "exchangeBlocks", "(II)V"⟩, 6) := ⟨⟨by decide +kernel, by decide +kernel⟩, List.mem_of_getElem? (i := 11) (by decide +kernel), List.mem_of_getElem? (i := 69) (by decide +kernel), List.mem_of_getElem? (i := 70) (by decide +kernel)⟩
theorem lw_p3 : lw_okq (⟨"CoefTurns", "exchangeCells", "(II)V"⟩, 6) := ⟨⟨by decide +kernel, by decide +kernel⟩, List.mem_of_getElem? (i := 11) (by decide +kernel), List.mem_of_getElem? (i := 73) (by decide +kernel), List.mem_of_getElem? (i := 74) (by decide +kernel)⟩
theorem lw_p4 : lw_okq (⟨"CoefTurns", "transposeBlock", "(I)V"⟩, 6) := ⟨⟨by decide +kernel, by decide +kernel⟩, List.mem_of_getElem? (i := 11) (by decide +kernel), List.mem_of_getElem? (i := 77) (by decide +kernel), List.mem_of_getElem? (i := 78) (by decide +kernel)⟩
theorem lw_p5 : lw_okq (⟨"CoefTurns", "negatePlaces", "(I)V"⟩, 6) := ⟨⟨by decide +kernel, by decide +kernel⟩, List.mem_of_getElem? (i := 11) (by decide +kernel), List.mem_of_getElem? (i := 85) (by decide +kernel), List.mem_of_getElem? (i := 86) (by decide +kernel)⟩
theorem lw_p6 : lw_okq (⟨"CoefTurns", "isBlock", "(II)Z"⟩, 6) := ⟨⟨by decide +kernel, by decide +kernel⟩, List.mem_of_getElem? (i := 11) (by decide +kernel), List.mem_of_getElem? (i := 114) (by decide +kernel), List.mem_of_getElem? (i := 115) (by decide +kernel)⟩
theorem lw_p7 : lw_okq (⟨"CoefTurns", "countNotZero", "()I"⟩, 6) := ⟨⟨by decide +kernel, by decide +kernel⟩, List.mem_of_getElem? (i := 11) (by decide +kernel), List.mem_of_getElem? (i := 146) (by decide +kernel), List.mem_of_getElem? (i := 147) (by decide +kernel)⟩
theorem lw_p8 : lw_okq (⟨"CoefTurns", "greatestSize", "()I"⟩, 6) := ⟨⟨by decide +kernel, by decide +kernel⟩, List.mem_of_getElem? (i := 11) (by decide +kernel), List.mem_of_getElem? (i := 150) (by decide +kernel), List.mem_of_getElem? (i := 151) (by decide +kernel)⟩
theorem lw_p9 : lw_okq (⟨"java/lang/Throwable", "fillInStackTrace", "(I)Ljava/lang/Throwable;"⟩, 6) := ⟨⟨by decide +kernel, by decide +kernel⟩, List.mem_of_getElem? (i := 206) (by decide +kernel), List.mem_of_getElem? (i := 204) (by decide +kernel), List.mem_of_getElem? (i := 205) (by decide +kernel)⟩
theorem lw_p10 : lw_okq (⟨"CoefTurnsModel", "isBlock", "(II)Z"⟩, 8) := ⟨⟨by decide +kernel, by decide +kernel⟩, List.mem_of_getElem? (i := 260) (by decide +kernel), List.mem_of_getElem? (i := 302) (by decide +kernel), List.mem_of_getElem? (i := 303) (by decide +kernel)⟩
theorem lw_p11 : lw_okq (⟨"CoefTurnsModel", "transposeAll", "()V"⟩, 8) := ⟨⟨by decide +kernel, by decide +kernel⟩, List.mem_of_getElem? (i := 260) (by decide +kernel), List.mem_of_getElem? (i := 324) (by decide +kernel), List.mem_of_getElem? (i := 325) (by decide +kernel)⟩
theorem lw_p12 : lw_okq (⟨"CoefTurnsModel", "become", "(II)V"⟩, 8) := ⟨⟨by decide +kernel, by decide +kernel⟩, List.mem_of_getElem? (i := 260) (by decide +kernel), List.mem_of_getElem? (i := 328) (by decide +kernel), List.mem_of_getElem? (i := 329) (by decide +kernel)⟩
theorem lw_p13 : lw_okq (⟨"CoefTurnsModel", "mirrorAll", "()V"⟩, 8) := ⟨⟨by decide +kernel, by decide +kernel⟩, List.mem_of_getElem? (i := 260) (by decide +kernel), List.mem_of_getElem? (i := 336) (by decide +kernel), List.mem_of_getElem? (i := 337) (by decide +kernel)⟩
theorem lw_p14 : lw_okq (⟨"CoefTurnsModel", "flipAll", "()V"⟩, 8) := ⟨⟨by decide +kernel, by decide +kernel⟩, List.mem_of_getElem? (i := 260) (by decide +kernel), List.mem_of_getElem? (i := 344) (by decide +kernel), List.mem_of_getElem? (i := 345) (by decide +kernel)⟩
theorem lw_p15 : lw_okq (⟨"CoefTurnsModel", "lookAll", "(Z)I"⟩, 8) := ⟨⟨by decide +kernel, by decide +kernel⟩, List.mem_of_getElem? (i := 260) (by decide +kernel), List.mem_of_getElem? (i := 389) (by decide +kernel), List.mem_of_getElem? (i := 390) (by decide +kernel)⟩
def lw_privs_1 : List (MethodName × Nat) := [(⟨"CoefTurns", "fillBlock", "(II)V"⟩, 6), (⟨"CoefTurns", "exchangeAcrossDiagonal", "(I)V"⟩, 6), (⟨"CoefTurns", "exchangeBlocks", "(II)V"⟩, 6), (⟨"CoefTurns", "exchangeCells", "(II)V"⟩, 6), (⟨"CoefTurns", "transposeBlock", "(I)V"⟩, 6), (⟨"CoefTurns", "negatePlaces", "(I)V"⟩, 6), (⟨"CoefTurns", "isBlock", "(II)Z"⟩, 6), (⟨"CoefTurns", "countNotZero", "()I"⟩, 6), (⟨"CoefTurns", "greatestSize", "()I"⟩, 6), (⟨"java/lang/Throwable", "fillInStackTrace", "(I)Ljava/lang/Throwable;"⟩, 6), (⟨"CoefTurnsModel", "isBlock", "(II)Z"⟩, 8), (⟨"CoefTurnsModel", "transposeAll", "()V"⟩, 8), (⟨"CoefTurnsModel", "become", "(II)V"⟩, 8), (⟨"CoefTurnsModel", "mirrorAll", "()V"⟩, 8), (⟨"CoefTurnsModel", "flipAll", "()V"⟩, 8), (⟨"CoefTurnsModel", "lookAll", "(Z)I"⟩, 8)]
theorem lw_r1 : ∀ q ∈ lw_privs_1, lw_okq q := List.forall_mem_cons.mpr ⟨lw_p0, List.forall_mem_cons.mpr ⟨lw_p1, List.forall_mem_cons.mpr ⟨lw_p2, List.forall_mem_cons.mpr ⟨lw_p3, List.forall_mem_cons.mpr ⟨lw_p4, List.forall_mem_cons.mpr ⟨lw_p5, List.forall_mem_cons.mpr ⟨lw_p6, List.forall_mem_cons.mpr ⟨lw_p7, List.forall_mem_cons.mpr ⟨lw_p8, List.forall_mem_cons.mpr ⟨lw_p9, List.forall_mem_cons.mpr ⟨lw_p10, List.forall_mem_cons.mpr ⟨lw_p11, List.forall_mem_cons.mpr ⟨lw_p12, List.forall_mem_cons.mpr ⟨lw_p13, List.forall_mem_cons.mpr ⟨lw_p14, List.forall_mem_cons.mpr ⟨lw_p15, fun _ h => absurd h List.not_mem_nil⟩⟩⟩⟩⟩⟩⟩⟩⟩⟩⟩⟩⟩⟩⟩⟩
def lw_privs : List (MethodName × Nat) := lw_privs_1
def lw_tbl : List Cond := k2_sels lw_privs ++ tables_1
theorem lw_privs_ok : ∀ q ∈ lw_privs, lw_okq q := lw_r1
/-! ===== BEGIN words of one list among another's, by their places ===== -/
theorem goodIn_r {big : List Cond} (ws : List Cond) (ps : List Nat) (hp : ws = ps.filterMap (fun i => big[i]?)) (h : ws.all goodWord = true) : GoodIn big ws := by
  intro w hw
  have h1 := List.all_eq_true.mp h w hw
  rw [hp] at hw
  obtain ⟨i, -, hi⟩ := List.mem_filterMap.mp hw
  have hm : w ∈ big := by first | exact List.mem_of_getElem? hi | exact List.getElem?_mem hi
  exact ⟨hm, good_of_word h1⟩
theorem goodIn_app {big a b : List Cond} (ha : GoodIn big a) (hb : GoodIn big b) : GoodIn big (a ++ b) := fun w h => (List.mem_append.mp h).elim (ha w) (hb w)
theorem goodIn_ca {big a b : List Cond} {c : Cond} (ha : GoodIn big (c :: a)) (hb : GoodIn big b) : GoodIn big (c :: (a ++ b)) := fun w h => (List.mem_cons.mp h).elim (fun e => ha w (List.mem_cons.mpr (Or.inl e))) (fun h => (List.mem_append.mp h).elim (fun h => ha w (List.mem_cons.mpr (Or.inr h))) (hb w))
theorem goodIn_sub {big ws : List Cond} (hm : ∀ w ∈ ws, w ∈ big) (h : ws.all goodWord = true) : GoodIn big ws := fun w hw => ⟨hm w hw, good_of_word (List.all_eq_true.mp h w hw)⟩
/-! ===== END ===== -/

/-! ===== BEGIN exceptions that leave a method, and their catching by the caller (launches without stack traces) ===== -/
section VXA
/-! The laws vx_back, vx_callV, vx_callS, vx_callSW, vx_throw0, vx_throwS follow proofs of the library, with one case more: JvmDerived/Free/Laws.lean (Back.of_free), Shelf42/LK1.lean (callV, callS), Shelf/KitTraced.lean (throwNew0V, throwNewS). -/
/-- where a method has thrown q: the class by its name, the cell, what was written, the world -/
def vx_T (XC : String → State → State → Prop) (st : State) (q : Addr) (t : State) (mc ms : Nat) (free : Addr → Prop) : Prop :=
  ∃ (E : String) (ce : Cell) (L : List Loc), XC E st t ∧ t.heap[q]? = some ce ∧ ce.vm = .none ∧ st.vm.findClass E = some ce.cls ∧ st.WarmedH t.vm ∧ st.sameButNew ({ t with vm := st.vm } : State) L mc ms ∧ ∀ z ∈ L, free z.base
def vx_Q (Qc : Array Value → State → Outcome → State → Prop) (XC : String → State → State → Prop) (mc ms : Nat) (free : Addr → Prop) : Array Value → State → Outcome → State → Prop := fun a st o t =>
  (Qc a st o t ∧ ∃ L, FrameEnd st o t L mc ms ∧ ∀ q ∈ L, free q.base) ∨ ∃ q, o = .threw q ∧ vx_T XC st q t mc ms free
/-- a callee that returns or throws -/
def vx_Met (l : Launch) (y : MethodName) (ws : List Cond) (rm : Room) (Pc : Array Value → State → Prop) (Qc : Array Value → State → Outcome → State → Prop) (XC : String → State → State → Prop) (mc ms : Nat) (free : Addr → Prop) : Prop :=
  MetFree l y (headSpec ws rm) Pc (fun _ _ _ _ _ => True) (vx_Q Qc XC mc ms free)
def vx_Post (XC : String → State → State → Prop) (mc ms : Nat) (free : Addr → Prop) : Pt → Array Value → Addr → Pt → Prop := fun A a q B =>
  ∃ (g : JFrame) (mk : MethodId) (t : State) (L : List Loc) (E : String) (ce : Cell), B.U.heap = t.heap ∧ B.U.vm = t.vm ∧ XC E (A.U.calling g mk a) t ∧ t.heap[q]? = some ce ∧ ce.vm = .none ∧ A.U.vm.findClass E = some ce.cls ∧ B.locs = A.locs ++ L ∧ (∀ z ∈ L, free z.base) ∧ B.cells = A.cells + mc ∧ B.slots = A.slots + ms
def vx_Back (l : Launch) (R : Room) (p : Program) (e : Env) (below : List Frame) (s : State) (sargs : Array Value) (y : MethodName) (len W9 : Nat)
    (Pre : Pt → Array Value → Prop) (Post : Pt → Array Value → Option Value → Pt → Prop) (PostX : Pt → Array Value → Addr → Pt → Prop) : Prop :=
  ∀ (m : MethodId) (meth : Method) (c : Code) (A : Pt) (g : JFrame) (ig : Instr) (mk : MethodId) (a : Array Value),
    Stand p l e R s m sargs below meth c A.U A.locs A.cells A.slots → g.method = m → g.locals.size = c.maxLocals → decode c.code g.pc = .ok (ig, len) →
    2 * g.monitorRoom + (g.stack.map fun v => v.category).sum ≤ W9 → A.U.methodNamed? y = some mk → Pre A a →
    (∃ (v : Option Value) (B : Pt), Stand p l e R s m sargs below meth c B.U B.locs B.cells B.slots ∧ Post A a v B ∧
      Steps p.tables e below (doInvoke e (A.U.setTop g) [] mk a).1 (B.U.setTop { g with pc := g.pc + len, stack := v.toList ++ g.stack })) ∨
    (∃ (q : Addr) (B : Pt), Stand p l e R s m sargs below meth c B.U B.locs B.cells B.slots ∧ PostX A a q B ∧
      Steps p.tables e below (doInvoke e (A.U.setTop g) [] mk a).1 ((B.U.setTop g).pushFrame (.throwing q)))
section Payer
variable {l : Launch} {R : Room} {p : Program} {e : Env} {below : List Frame} {s : State} {sargs : Array Value} {y : MethodName} {len W9 : Nat}
theorem vx_back {ws : List Cond} {rm : Room} {Pc : Array Value → State → Prop} {Qc : Array Value → State → Outcome → State → Prop} {XC : String → State → State → Prop} {mc ms : Nat} {free : Addr → Prop} {bytes : ByteArray} {maxL : Nat} {ret : Option FieldType}
    (hM : vx_Met l y ws rm Pc Qc XC mc ms free) (hblind : FrameBlind Pc) (hrc : rm.cells = mc) (hrs : rm.slots = ms)
    (hframes : rm.frames + 1 ≤ R.frames) (hlocals : W9 + (maxL + 11) + rm.locals ≤ R.locals)
    (hws : ∀ w ∈ ws, ∀ a' U, s.WarmedH U.vm → w.before a' U = true) (hcode : Cond.code y bytes maxL ret ∈ ws) (hinit : ∀ a' U, s.WarmedH U.vm → (Cond.initialized y.cls).before a' U = true) :
    vx_Back l R p e below s sargs y len W9 (PreOf R mc ms Pc) (PostOf Qc mc ms free) (vx_Post XC mc ms free) := by
  intro m meth c A g ig mk a X hg hsize hdg hW hn hp
  have h1 : (headSpec ws rm).pre.before a A.U = true := atoms_intro fun w hw => hws w hw _ _ X.warmed
  have h2 : (Cond.code y bytes maxL ret).before a A.U = true := hws _ hcode _ _ X.warmed
  have h3 : (Cond.initialized y.cls).before a A.U = true := hinit _ _ X.warmed
  have h4 : A.cells + (headSpec ws rm).room.cells ≤ R.cells := by rw [show (headSpec ws rm).room.cells = mc from hrc]; exact hp.1
  have h5 : A.slots + (headSpec ws rm).room.slots ≤ R.slots := by rw [show (headSpec ws rm).room.slots = ms from hrs]; exact hp.2.1
  have hPc : Pc a (A.U.calling g mk a) := hblind _ _ _ _ hp.2.2
  obtain ⟨U, Ls, c0, s0⟩ := A
  dsimp only [Pt.U, Pt.locs, Pt.cells, Pt.slots] at h1 h2 h3 h4 h5 X hn hPc ⊢
  obtain ⟨methY, cY, hmY, hcY, -, hlY, -, -, -, -⟩ := Cond.code_spec hn h2
  obtain ⟨kY, hkY, -⟩ := className_of_methodNamed hn
  have hinitY : kY.init = .initialized := Cond.initialized_spec (findClass_of_methodNamed hn) hkY h3
  have h : At U g.method c below := by rw [hg]; exact X.here
  have hlocals9 : W9 + (maxL + 11) + (headSpec ws rm).room.locals ≤ R.locals := hlocals
  have happ : (headSpec ws rm).appliesLoose y e.platform (U.calling g mk a) = true :=
    Spec.appliesLoose_calling (g := g) h hdg hn hkY hinitY
      (X.room_calling (g := g) (R' := (headSpec ws rm).room) hsize hmY hcY hframes (by rw [hlY]; omega) h4 h5) h1
  obtain ⟨mid, hmid⟩ := h.above
  have hfr : (U.setTop g).frames = (.java g :: mid) ++ below := by rw [State.frames_setTop' g h.top, hmid]; rfl
  obtain ⟨o, s₂, hsteps, -, hend, hq⟩ := Steps.callFree hM p X.admits X.cas X.clock (acts := []) hfr happ hPc trivial
  have hq' : vx_Q Qc XC mc ms free a (U.calling g mk a) o s₂ := hq
  rw [State.frames_setTop' g h.top] at hend
  obtain ⟨g₀, hg0⟩ := Option.isSome_iff_exists.mp h.top
  obtain ⟨r, hr⟩ := State.topJava?_eq_some.mp hg0
  have hr' : (({ U with heap := s₂.heap, slotsUsed := s₂.slotsUsed } : State).setVm s₂.vm).frames = .java g₀ :: r := hr
  rcases hq' with ⟨hqc, L, hfe, hL⟩ | ⟨q, rfl, E, ce, L, hx, hce, hcv, hcl, hW₂, hsm, hL⟩
  · obtain ⟨⟨v, rfl⟩, hW₂, e2, q2, q3, q4, q5, q6⟩ := id hfe
    have e3 : s₂ = ({ (U.calling g mk a).setFrames s₂.frames with heap := s₂.heap, slotsUsed := s₂.slotsUsed } : State).setVm s₂.vm := by
      have : s₂ = ({ s₂ with vm := (U.calling g mk a).vm } : State).setVm s₂.vm := rfl
      rw [e2] at this
      exact this
    obtain ⟨c₂, i₂, len₂, hc₂, hd₂, hf₂⟩ := hend
    have hW' : U.WarmedH s₂.vm := hW₂
    have hcc : c₂ = c := by
      have h1 : s₂.code? g.method = U.code? g.method := by
        rw [State.code?_eq, State.code?_eq, hW'.alike.method?]
      exact Option.some.inj (hc₂.symm.trans (h1.trans h.code))
    subst hcc
    have hlen : len₂ = len := by rw [hdg] at hd₂; cases hd₂; rfl
    subst hlen
    have hs₂ : s₂ = (({ U with heap := s₂.heap, slotsUsed := s₂.slotsUsed } : State).setVm s₂.vm).setTop { g with pc := g.pc + len₂, stack := v.toList ++ g.stack } := by
      refine e3.trans ?_
      rw [hf₂, State.calling_eq h.top, State.setFrames_setFrames, State.setTop_of_frames _ hr', hr]
      rfl
    have hsame : U.sameButNew ({ U with heap := s₂.heap, slotsUsed := s₂.slotsUsed } : State) L mc ms := by
      refine ⟨?_, q2, q3, q4, q5, q6⟩
      obtain ⟨t, ht, -⟩ := State.frames_cons hr
      show ({ U with heap := s₂.heap, slotsUsed := s₂.slotsUsed } : State) = { U.setFrames U.frames with heap := s₂.heap, slotsUsed := s₂.slotsUsed }
      rw [State.setFrames_self ht]
    subst hg
    refine Or.inl ⟨v, ⟨(({ U with heap := s₂.heap, slotsUsed := s₂.slotsUsed } : State).setVm s₂.vm), Ls ++ L, c0 + mc, s0 + ms⟩,
      ⟨X.admits, X.cas, X.clock, X.frames, X.room, X.hears, X.method, X.code, (X.here.setHeapUsed s₂.heap s₂.slotsUsed).setVm hW'.alike, X.tail, State.WarmedH.trans X.warmed hW', X.limits, X.bytes, X.same.trans (hsame.setVm s.vm)⟩,
      ⟨g, mk, s₂, L, rfl, rfl, hqc, rfl, hL, rfl, rfl⟩, ?_⟩
    show Steps p.tables e below _ ((({ U with heap := s₂.heap, slotsUsed := s₂.slotsUsed } : State).setVm s₂.vm).setTop { g with pc := g.pc + len₂, stack := v.toList ++ g.stack })
    rw [← hs₂]
    exact hsteps
  · obtain ⟨e2, q2, q3, q4, q5, q6⟩ := id hsm
    have e3 : s₂ = ({ (U.calling g mk a).setFrames s₂.frames with heap := s₂.heap, slotsUsed := s₂.slotsUsed } : State).setVm s₂.vm := by
      have : s₂ = ({ s₂ with vm := (U.calling g mk a).vm } : State).setVm s₂.vm := rfl
      rw [e2] at this
      exact this
    have hf₂ : s₂.frames = .throwing q :: .java g :: U.frames.tail := hend
    have hW' : U.WarmedH s₂.vm := hW₂
    have hs₂ : s₂ = ((({ U with heap := s₂.heap, slotsUsed := s₂.slotsUsed } : State).setVm s₂.vm).setTop g).pushFrame (.throwing q) := by
      refine e3.trans ?_
      rw [hf₂, State.calling_eq h.top, State.setFrames_setFrames, State.pushFrame, State.frames_setTop _ hr', State.setTop_of_frames _ hr', State.setFrames_setFrames, hr]
      rfl
    have hsame : U.sameButNew ({ U with heap := s₂.heap, slotsUsed := s₂.slotsUsed } : State) L mc ms := by
      refine ⟨?_, q2, q3, q4, q5, q6⟩
      obtain ⟨t, ht, -⟩ := State.frames_cons hr
      show ({ U with heap := s₂.heap, slotsUsed := s₂.slotsUsed } : State) = { U.setFrames U.frames with heap := s₂.heap, slotsUsed := s₂.slotsUsed }
      rw [State.setFrames_self ht]
    subst hg
    refine Or.inr ⟨q, ⟨(({ U with heap := s₂.heap, slotsUsed := s₂.slotsUsed } : State).setVm s₂.vm), Ls ++ L, c0 + mc, s0 + ms⟩,
      ⟨X.admits, X.cas, X.clock, X.frames, X.room, X.hears, X.method, X.code, (X.here.setHeapUsed s₂.heap s₂.slotsUsed).setVm hW'.alike, X.tail, State.WarmedH.trans X.warmed hW', X.limits, X.bytes, X.same.trans (hsame.setVm s.vm)⟩,
      ⟨g, mk, s₂, L, E, ce, rfl, rfl, hx, hce, hcv, hcl, rfl, hL, rfl, rfl⟩, ?_⟩
    show Steps p.tables e below _ (((({ U with heap := s₂.heap, slotsUsed := s₂.slotsUsed } : State).setVm s₂.vm).setTop g).pushFrame (.throwing q))
    rw [← hs₂]
    exact hsteps
end Payer
section Calls
variable {p : Program} {l : Launch} {e : Env} {R : Room} {s : State} {m : MethodId} {args : Array Value} {below : List Frame} {meth : Method} {c : Code} {T : State} {locs : List Loc} {cells slots : Nat}
theorem vx_callV (X : Stand p l e R s m args below meth c T locs cells slots) (hexec : p.tables.exec = Jvm.exec) {own C : String} {index : Nat} {y : MethodName} {bytes : ByteArray} {maxL : Nat} {ret : Option FieldType}
    (hown : s.vm.findClass own = some m.cls) (hlink : (Cond.methodLink own index y).before args s = true) (hinst : (Cond.instanceMethod y).before args s = true) (hsel : (Cond.selects C y y).before args s = true)
    (hcode : (Cond.code y bytes maxL ret).before args s = true) (hy : y.cls ≠ "java/lang/invoke/MethodHandle" ∧ y.cls ≠ "java/lang/invoke/VarHandle")
    {W9 : Nat} {Pre : Pt → Array Value → Prop} {Post : Pt → Array Value → Option Value → Pt → Prop} {PostX : Pt → Array Value → Addr → Pt → Prop} (hK : vx_Back l R p e below s args y 3 W9 Pre Post PostX)
    {b : Addr} {cellB : Cell} (hcell : T.heap[b]? = some cellB) (hobj : cellB.vm.isStatics = false) (hcls : s.vm.findClass C = some cellB.cls)
    {g : JFrame} (hg : g.method = m) (hsize : g.locals.size = c.maxLocals) {argsL rest : List Value} (hlen : ∀ sig, parseMethodDescriptor y.desc = some sig → argsL.length = sig.parameters.length)
    (hstack : g.stack = argsL.reverse ++ .ref b :: rest) (hW : 2 * g.monitorRoom + (rest.map fun v => v.category).sum ≤ W9) (hdg : decode c.code g.pc = .ok (.invokevirtual index, 3))
    (hpre : ∀ vm₁, s.WarmedH vm₁ → Pre ⟨T.setVm vm₁, locs, cells, slots⟩ (Value.ref b :: argsL).toArray) :
    (∃ (v : Option Value) (vm₁ : Vm) (B : Pt), s.WarmedH vm₁ ∧ Stand p l e R s m args below meth c B.U B.locs B.cells B.slots ∧ Post ⟨T.setVm vm₁, locs, cells, slots⟩ (Value.ref b :: argsL).toArray v B ∧
      ∀ target, Steps p.tables e below (B.U.setTop { g with pc := g.pc + 3, stack := v.toList ++ rest }) target → Steps p.tables e below (T.setTop g) target) ∨
    (∃ (q : Addr) (vm₁ : Vm) (B : Pt), s.WarmedH vm₁ ∧ Stand p l e R s m args below meth c B.U B.locs B.cells B.slots ∧ PostX ⟨T.setVm vm₁, locs, cells, slots⟩ (Value.ref b :: argsL).toArray q B ∧
      Steps p.tables e below (T.setTop g) ((B.U.setTop { g with stack := rest }).pushFrame (.throwing q))) := by
  obtain ⟨mk, methM, hnamed, hmethM, hstM, habM⟩ := Cond.instanceMethod_spec hinst
  obtain ⟨methM', cM, hmethM', -, -, -, -, -, -, hsigM⟩ := Cond.code_spec hnamed hcode
  cases hmethM.symm.trans hmethM'
  obtain ⟨c2, r2, m2, q1, q2, q3, q4, kP, hkP, hkPi⟩ := Cond.selects_spec hsel
  cases hcls.symm.trans q1
  cases (State.methodFound?_of_named hnamed hy).symm.trans q2
  cases hnamed.symm.trans q3
  have hselP : selectMethod e.platform s.vm cellB.cls mk = .method mk := by rw [Launch.admits_selectMethod X.admits]; exact q4
  obtain ⟨vm₁, X₁, hstep₁⟩ := X.invokevirtual hexec hown hlink hnamed hmethM hstM hkP hkPi hy (a := b) (cell := cellB) hcell
    (fun z h => by rw [h] at hobj; cases hobj) hselP hmethM habM hkP hkPi (g := g) hg (argsL := argsL) (rest := rest) (hlen _ hsigM) hstack hdg
  rcases hK m meth c ⟨T.setVm vm₁, locs, cells, slots⟩ { g with stack := rest } (.invokevirtual index) mk (Value.ref b :: argsL).toArray X₁ hg hsize hdg hW (X₁.named hnamed) (hpre vm₁ X₁.warmed) with ⟨v, B, X', hpost, hsteps⟩ | ⟨q, B, X', hpost, hsteps⟩
  · exact Or.inl ⟨v, vm₁, B, X₁.warmed, X', hpost, fun target h => hstep₁ _ fun acts => by rw [doInvoke_state]; exact hsteps.trans h⟩
  · exact Or.inr ⟨q, vm₁, B, X₁.warmed, X', hpost, hstep₁ _ fun acts => by rw [doInvoke_state]; exact hsteps⟩
theorem vx_callS (X : Stand p l e R s m args below meth c T locs cells slots) (hexec : p.tables.exec = Jvm.exec) {own : String} {index : Nat} {y : MethodName} {bytes : ByteArray} {maxL : Nat} {ret : Option FieldType}
    (hown : s.vm.findClass own = some m.cls) (hlink : (Cond.methodLink own index y).before args s = true) (hstat : (Cond.static y).before args s = true) (hinit : (Cond.initialized y.cls).before args s = true)
    (hcode : (Cond.code y bytes maxL ret).before args s = true) (hy : y.cls ≠ "java/lang/invoke/MethodHandle" ∧ y.cls ≠ "java/lang/invoke/VarHandle")
    {W9 : Nat} {Pre : Pt → Array Value → Prop} {Post : Pt → Array Value → Option Value → Pt → Prop} {PostX : Pt → Array Value → Addr → Pt → Prop} (hK : vx_Back l R p e below s args y 3 W9 Pre Post PostX)
    {g : JFrame} (hg : g.method = m) (hsize : g.locals.size = c.maxLocals) {argsL rest : List Value} (hlen : ∀ sig, parseMethodDescriptor y.desc = some sig → argsL.length = sig.parameters.length)
    (hstack : g.stack = argsL.reverse ++ rest) (hW : 2 * g.monitorRoom + (rest.map fun v => v.category).sum ≤ W9) (hdg : decode c.code g.pc = .ok (.invokestatic index, 3))
    (hpre : ∀ vm₁, s.WarmedH vm₁ → Pre ⟨T.setVm vm₁, locs, cells, slots⟩ argsL.toArray) :
    (∃ (v : Option Value) (vm₁ : Vm) (B : Pt), s.WarmedH vm₁ ∧ Stand p l e R s m args below meth c B.U B.locs B.cells B.slots ∧ Post ⟨T.setVm vm₁, locs, cells, slots⟩ argsL.toArray v B ∧
      ∀ target, Steps p.tables e below (B.U.setTop { g with pc := g.pc + 3, stack := v.toList ++ rest }) target → Steps p.tables e below (T.setTop g) target) ∨
    (∃ (q : Addr) (vm₁ : Vm) (B : Pt), s.WarmedH vm₁ ∧ Stand p l e R s m args below meth c B.U B.locs B.cells B.slots ∧ PostX ⟨T.setVm vm₁, locs, cells, slots⟩ argsL.toArray q B ∧
      Steps p.tables e below (T.setTop g) ((B.U.setTop { g with stack := rest }).pushFrame (.throwing q))) := by
  obtain ⟨mk, hnamed⟩ := Cond.code_named hcode
  obtain ⟨methM, cM, hmethM, -, -, -, -, -, -, hsigM⟩ := Cond.code_spec hnamed hcode
  have hstatic : methM.isStatic = true := Cond.static_spec hnamed hmethM hstat
  obtain ⟨kP, hkP, -⟩ := className_of_methodNamed hnamed
  have hinitP : kP.init = .initialized := Cond.initialized_spec (findClass_of_methodNamed hnamed) hkP hinit
  obtain ⟨vm₁, X₁, hstep₁⟩ := X.invokestatic hexec hown hlink hnamed hmethM hstatic hkP hinitP hy (g := g) hg (argsL := argsL) (rest := rest) (hlen _ hsigM) hstack hdg
  rcases hK m meth c ⟨T.setVm vm₁, locs, cells, slots⟩ { g with stack := rest } (.invokestatic index) mk argsL.toArray X₁ hg hsize hdg hW (X₁.named hnamed) (hpre vm₁ X₁.warmed) with ⟨v, B, X', hpost, hsteps⟩ | ⟨q, B, X', hpost, hsteps⟩
  · exact Or.inl ⟨v, vm₁, B, X₁.warmed, X', hpost, fun target h => hstep₁ _ fun acts => by rw [doInvoke_state]; exact hsteps.trans h⟩
  · exact Or.inr ⟨q, vm₁, B, X₁.warmed, X', hpost, hstep₁ _ fun acts => by rw [doInvoke_state]; exact hsteps⟩
end Calls
theorem vx_cls {s : State} {T : State} {vm₁ : Vm} {E : String} {k : ClassId} (hW : s.WarmedH vm₁) (h : (T.setVm vm₁).vm.findClass E = some k) : s.vm.findClass E = some k := by
  have h1 : vm₁.findClass E = some k := h
  rw [hW.alike.findClass] at h1
  exact h1
/-- the method's frame g, with q thrown over it -/
def vx_W (p : Program) (l : Launch) (e : Env) (R : Room) (s : State) (m : MethodId) (args : Array Value) (below : List Frame) (meth : Method) (c : Code) (H : Heap) (locs : List Loc) (cells slots : Nat) (Q : State → Prop) (g : JFrame) (q : Addr) : Prop :=
  ∀ T : State, T.heap = H → Stand p l e R s m args below meth c T locs cells slots → ∃ t, Steps p.tables e below ((T.setTop g).pushFrame (.throwing q)) t ∧ Q t
def vx_Run (p : Program) (l : Launch) (e : Env) (R : Room) (s : State) (m : MethodId) (args : Array Value) (below : List Frame) (meth : Method) (c : Code) (H : Heap) (locs : List Loc) (cells slots mc ms : Nat) (g : JFrame) (rest : List Value) (Qa : State → Outcome → State → Prop) (XC : String → State → State → Prop) (free : Addr → Prop) : Prop :=
  ∀ T : State, T.heap = H → Stand p l e R s m args below meth c T locs cells slots →
    (∃ (v : Option Value) (st₀ t T' : State) (L : List Loc), st₀.heap = H ∧ Stand p l e R s m args below meth c T' (locs ++ L) (cells + mc) (slots + ms) ∧ (∀ q ∈ L, free q.base) ∧ T'.heap = t.heap ∧ T'.vm = t.vm ∧ Qa st₀ (.returned v) t ∧
      Goes p e below T g T' { g with pc := g.pc + 3, stack := v.toList ++ rest }) ∨
    (∃ (q : Addr) (st₀ t T' : State) (L : List Loc) (E : String) (ce : Cell), st₀.heap = H ∧ Stand p l e R s m args below meth c T' (locs ++ L) (cells + mc) (slots + ms) ∧ (∀ z ∈ L, free z.base) ∧ T'.heap = t.heap ∧ T'.vm = t.vm ∧ XC E st₀ t ∧ t.heap[q]? = some ce ∧ ce.vm = .none ∧ s.vm.findClass E = some ce.cls ∧
      Steps p.tables e below (T.setTop g) ((T'.setTop { g with stack := rest }).pushFrame (.throwing q)))
def vx_X {S : Type} (px : S → Prop) (B : String → S → State → Prop) (A : Nat → Prop) : String → State → State → Prop := fun E st t => ∃ u : S, px u ∧ B E u t ∧ va_F A st t
section Runs
variable {p : Program} {l : Launch} {e : Env} {R : Room} {s : State} {m : MethodId} {args : Array Value} {below : List Frame} {meth : Method} {c : Code} {H : Heap} {locs : List Loc} {cells slots : Nat}
variable {y : MethodName} {bytes cc : ByteArray} {maxL nL mc ms n index : Nat} {ret : Option FieldType} {ws : List Cond} {rm : Room} {Pc : Array Value → State → Prop} {Qc : Array Value → State → Outcome → State → Prop} {XC : String → State → State → Prop} {free : Addr → Prop} {Ts : List Cond} {own C : String} {b : Addr} {As rest : List Value} {g : JFrame}
theorem vx_callBack (cb : CallB R s args own index y bytes maxL ret ws rm mc ms n) (hM : vx_Met l y ws rm Pc Qc XC mc ms free) (hbl : FrameBlind Pc) : vx_Back l R p e below s args y 3 8 (PreOf R mc ms Pc) (PostOf Qc mc ms free) (vx_Post XC mc ms free) := by
  obtain ⟨hrc, hrs, hfr, hlo, hws, hcw, -, hini, -⟩ := cb
  exact vx_back (bytes := bytes) (maxL := maxL) (ret := ret) hM hbl hrc hrs hfr hlo hws hcw (fun a' U hW => word_at hW (Or.inl (by first | rfl | simp [Cond.onTables, Cond.keeps, Cond.steady])) hini)
theorem vx_runV (S : CallFix p m c cc nL s args Ts own) (hM : vx_Met l y ws rm Pc Qc XC mc ms free) (cw : CallW R s args own C index y bytes maxL ret ws rm mc ms n) (hp : PreV s H C b Pc As)
    (hg : g.method = m) (hn : As.length = n) (hsize : g.locals.size = nL) (hstack : g.stack = As.reverse ++ .ref b :: rest) (hW : 2 * g.monitorRoom + (rest.map fun v => v.category).sum ≤ 8) (hdg : decode cc g.pc = .ok (.invokevirtual index, 3)) (hf : cells + mc ≤ R.cells ∧ slots + ms ≤ R.slots) :
    vx_Run p l e R s m args below meth c H locs cells slots mc ms g rest (Qc (Value.ref b :: As).toArray) XC free := by
  have hK : vx_Back l R p e below s args y 3 8 (PreOf R mc ms Pc) (PostOf Qc mc ms free) (vx_Post XC mc ms free) := vx_callBack cw.1 hM hp.1
  obtain ⟨⟨-, -, -, -, -, -, hcode, -, hy, hlen, hl⟩, hin, hse⟩ := cw
  obtain ⟨hx, hb, hml, ho, -⟩ := S
  obtain ⟨-, ⟨cellB, hcB, hoB, hclB⟩, hPc⟩ := hp
  intro T hT X
  rcases vx_callV X hx (C := C) (bytes := bytes) (maxL := maxL) (ret := ret) ho hl hin hse hcode hy hK (by rw [hT]; exact hcB) hoB hclB hg (hsize.trans hml.symm) (argsL := As) (rest := rest) (fun sig h => hn.trans (hlen sig h)) hstack hW (by rw [hb]; exact hdg)
    (fun vm₁ hW₁ => ⟨hf.1, hf.2, hPc (T.setVm vm₁) hT hW₁⟩) with ⟨v, vm₁, ⟨U', l2, c2, s2⟩, hW₁, X', ⟨g', mk, t, L, e1, e2, hq, h1, hL, h2, h3⟩, st⟩ | ⟨q, vm₁, ⟨U', l2, c2, s2⟩, hW₁, X', ⟨g', mk, t, L, E, ce, e1, e2, hq, hce, hcv, hcl, h1, hL, h2, h3⟩, st⟩
  · dsimp only [Pt.U, Pt.locs, Pt.cells, Pt.slots] at X' e1 e2 h1 h2 h3 st
    subst h1; subst h2; subst h3
    exact Or.inl ⟨v, (T.setVm vm₁).calling g' mk (Value.ref b :: As).toArray, t, U', L, hT, X', hL, e1, e2, hq, st⟩
  · dsimp only [Pt.U, Pt.locs, Pt.cells, Pt.slots] at X' e1 e2 h1 h2 h3 st hcl
    subst h1; subst h2; subst h3
    exact Or.inr ⟨q, (T.setVm vm₁).calling g' mk (Value.ref b :: As).toArray, t, U', L, E, ce, hT, X', hL, e1, e2, hq, hce, hcv, vx_cls hW₁ hcl, st⟩
theorem vx_runS (S : CallFix p m c cc nL s args Ts own) (hM : vx_Met l y ws rm Pc Qc XC mc ms free) (cw : CallB R s args own index y bytes maxL ret ws rm mc ms n ∧ (Cond.static y).before args s = true) (hp : PreS s H Pc As)
    (hg : g.method = m) (hn : As.length = n) (hsize : g.locals.size = nL) (hstack : g.stack = As.reverse ++ rest) (hW : 2 * g.monitorRoom + (rest.map fun v => v.category).sum ≤ 8) (hdg : decode cc g.pc = .ok (.invokestatic index, 3)) (hf : cells + mc ≤ R.cells ∧ slots + ms ≤ R.slots) :
    vx_Run p l e R s m args below meth c H locs cells slots mc ms g rest (Qc As.toArray) XC free := by
  have hK : vx_Back l R p e below s args y 3 8 (PreOf R mc ms Pc) (PostOf Qc mc ms free) (vx_Post XC mc ms free) := vx_callBack cw.1 hM hp.1
  obtain ⟨⟨-, -, -, -, -, -, hcode, hini, hy, hlen, hl⟩, hstt⟩ := cw
  obtain ⟨hx, hb, hml, ho, -⟩ := S
  intro T hT X
  rcases vx_callS X hx (bytes := bytes) (maxL := maxL) (ret := ret) ho hl hstt hini hcode hy hK hg (hsize.trans hml.symm) (argsL := As) (rest := rest) (fun sig h => hn.trans (hlen sig h)) hstack hW (by rw [hb]; exact hdg)
    (fun vm₁ hW₁ => ⟨hf.1, hf.2, hp.2 (T.setVm vm₁) hT hW₁⟩) with ⟨v, vm₁, ⟨U', l2, c2, s2⟩, hW₁, X', ⟨g', mk, t, L, e1, e2, hq, h1, hL, h2, h3⟩, st⟩ | ⟨q, vm₁, ⟨U', l2, c2, s2⟩, hW₁, X', ⟨g', mk, t, L, E, ce, e1, e2, hq, hce, hcv, hcl, h1, hL, h2, h3⟩, st⟩
  · dsimp only [Pt.U, Pt.locs, Pt.cells, Pt.slots] at X' e1 e2 h1 h2 h3 st
    subst h1; subst h2; subst h3
    exact Or.inl ⟨v, (T.setVm vm₁).calling g' mk As.toArray, t, U', L, hT, X', hL, e1, e2, hq, st⟩
  · dsimp only [Pt.U, Pt.locs, Pt.cells, Pt.slots] at X' e1 e2 h1 h2 h3 st hcl
    subst h1; subst h2; subst h3
    exact Or.inr ⟨q, (T.setVm vm₁).calling g' mk As.toArray, t, U', L, E, ce, hT, X', hL, e1, e2, hq, hce, hcv, vx_cls hW₁ hcl, st⟩
end Runs
section Rows
variable {p : Program} {l : Launch} {e : Env} {R : Room} {s : State} {m : MethodId} {args : Array Value} {below : List Frame} {meth : Method} {c : Code} {H : Heap} {locs : List Loc} {cells slots : Nat} {Q : State → Prop}
variable {mc ms : Nat} {free : Addr → Prop} {A0 A1 : Nat → Prop} {H0 : Heap} {a : Array Value} {pc : Nat} {ls : Array Slot} {st0 rest : List Value}
theorem vx_keep {st₀ t T' : State} {L : List Loc} (h0 : st₀.heap = H) (e1 : T'.heap = t.heap) (hS : va_S A0 H0 H locs) (hA : ∀ q, q < H.size → A1 q → A0 q) (hf : ∀ q, free q → A0 q) (hL : ∀ q ∈ L, free q.base) (hF : va_F A1 st₀ t) :
    H.size ≤ T'.heap.size ∧ (∀ q : Nat, q < H.size → ¬ A1 q → T'.heap[q]? = H[q]?) ∧ va_S A0 H0 T'.heap (locs ++ L) := by
  obtain ⟨hz, hk⟩ := hF
  rw [h0] at hz hk
  exact ⟨by rw [e1]; exact hz, fun q h1 h2 => by rw [e1]; exact hk q h1 h2,
    ⟨Nat.le_trans hS.1 (by rw [e1]; exact hz), fun q h1 h2 => by rw [e1, hk q (Nat.lt_of_lt_of_le h1 hS.1) (fun z => h2 (hA q (Nat.lt_of_lt_of_le h1 hS.1) z))]; exact hS.2.1 q h1 h2, fun q hq => by
      rcases List.mem_append.mp hq with h | h
      · exact hS.2.2 q h
      · exact hf _ (hL q h)⟩⟩
theorem vx_calli {S SX : Type} {post : Int32 → S → Prop} {px : SX → Prop} {B : S → State → Prop} {BX : String → SX → State → Prop} {AX : Nat → Prop} (hr : vx_Run p l e R s m args below meth c H locs cells slots mc ms (F0 m pc ls st0) rest (va_Qi post B A1 a) (vx_X px BX AX) free) (hS : va_S A0 H0 H locs) (hA : ∀ q, q < H.size → A1 q → A0 q) (hf : ∀ q, free q → A0 q) (hAX : ∀ q, q < H.size → AX q → A0 q)
    (kx : ∀ (E : String) (ce : Cell) (q9 : Addr) (u : SX) (t : State) (H1 : Heap) (locs1 : List Loc), t.heap = H1 → s.vm.Alike t.vm → px u → BX E u t → H.size ≤ H1.size → (∀ q : Nat, q < H.size → ¬ AX q → H1[q]? = H[q]?) → va_S A0 H0 H1 locs1 → H1[q9]? = some ce → ce.vm = .none → s.vm.findClass E = some ce.cls → vx_W p l e R s m args below meth c H1 locs1 (cells + mc) (slots + ms) Q (F0 m pc ls rest) q9)
    (kk : ∀ (r : Int32) (u : S) (t : State) (H1 : Heap) (locs1 : List Loc), t.heap = H1 → s.vm.Alike t.vm → post r u → B u t → H.size ≤ H1.size → (∀ q : Nat, q < H.size → ¬ A1 q → H1[q]? = H[q]?) → va_S A0 H0 H1 locs1 → W p l e R s m args below meth c H1 locs1 (cells + mc) (slots + ms) Q (F0 m (pc + 3) ls (.int r :: rest))) : W p l e R s m args below meth c H locs cells slots Q (F0 m pc ls st0) := by
  intro T hT X
  rcases hr T hT X with ⟨v, st₀, t, T', L, h0, X', hL, e1, e2, ⟨⟨r, u, hv, hp, hb⟩, hF⟩, st⟩ | ⟨q, st₀, t, T', L, E, ce, h0, X', hL, e1, e2, ⟨u, hp, hb, hF⟩, hce, hcv, hcl, st⟩
  · cases hv
    obtain ⟨k1, k2, k3⟩ := vx_keep h0 e1 hS hA hf hL hF
    obtain ⟨t2, a1, b1⟩ := kk r u t T'.heap (locs ++ L) e1.symm (by rw [← e2]; exact X'.warmed.alike) hp hb k1 k2 k3 T' rfl X'
    exact ⟨t2, st t2 a1, b1⟩
  · obtain ⟨k1, k2, k3⟩ := vx_keep h0 e1 hS hAX hf hL hF
    obtain ⟨t2, a1, b1⟩ := kx E ce q u t T'.heap (locs ++ L) e1.symm (by rw [← e2]; exact X'.warmed.alike) hp hb k1 k2 k3 (by rw [e1]; exact hce) hcv hcl T' rfl X'
    exact ⟨t2, st.trans a1, b1⟩
theorem vx_calll {S SX : Type} {post : Int64 → S → Prop} {px : SX → Prop} {B : S → State → Prop} {BX : String → SX → State → Prop} {AX : Nat → Prop} (hr : vx_Run p l e R s m args below meth c H locs cells slots mc ms (F0 m pc ls st0) rest (va_Ql post B A1 a) (vx_X px BX AX) free) (hS : va_S A0 H0 H locs) (hA : ∀ q, q < H.size → A1 q → A0 q) (hf : ∀ q, free q → A0 q) (hAX : ∀ q, q < H.size → AX q → A0 q)
    (kx : ∀ (E : String) (ce : Cell) (q9 : Addr) (u : SX) (t : State) (H1 : Heap) (locs1 : List Loc), t.heap = H1 → s.vm.Alike t.vm → px u → BX E u t → H.size ≤ H1.size → (∀ q : Nat, q < H.size → ¬ AX q → H1[q]? = H[q]?) → va_S A0 H0 H1 locs1 → H1[q9]? = some ce → ce.vm = .none → s.vm.findClass E = some ce.cls → vx_W p l e R s m args below meth c H1 locs1 (cells + mc) (slots + ms) Q (F0 m pc ls rest) q9)
    (kk : ∀ (r : Int64) (u : S) (t : State) (H1 : Heap) (locs1 : List Loc), t.heap = H1 → s.vm.Alike t.vm → post r u → B u t → H.size ≤ H1.size → (∀ q : Nat, q < H.size → ¬ A1 q → H1[q]? = H[q]?) → va_S A0 H0 H1 locs1 → W p l e R s m args below meth c H1 locs1 (cells + mc) (slots + ms) Q (F0 m (pc + 3) ls (.long r :: rest))) : W p l e R s m args below meth c H locs cells slots Q (F0 m pc ls st0) := by
  intro T hT X
  rcases hr T hT X with ⟨v, st₀, t, T', L, h0, X', hL, e1, e2, ⟨⟨r, u, hv, hp, hb⟩, hF⟩, st⟩ | ⟨q, st₀, t, T', L, E, ce, h0, X', hL, e1, e2, ⟨u, hp, hb, hF⟩, hce, hcv, hcl, st⟩
  · cases hv
    obtain ⟨k1, k2, k3⟩ := vx_keep h0 e1 hS hA hf hL hF
    obtain ⟨t2, a1, b1⟩ := kk r u t T'.heap (locs ++ L) e1.symm (by rw [← e2]; exact X'.warmed.alike) hp hb k1 k2 k3 T' rfl X'
    exact ⟨t2, st t2 a1, b1⟩
  · obtain ⟨k1, k2, k3⟩ := vx_keep h0 e1 hS hAX hf hL hF
    obtain ⟨t2, a1, b1⟩ := kx E ce q u t T'.heap (locs ++ L) e1.symm (by rw [← e2]; exact X'.warmed.alike) hp hb k1 k2 k3 (by rw [e1]; exact hce) hcv hcl T' rfl X'
    exact ⟨t2, st.trans a1, b1⟩
theorem vx_callf {S SX : Type} {post : UInt32 → S → Prop} {px : SX → Prop} {B : S → State → Prop} {BX : String → SX → State → Prop} {AX : Nat → Prop} (hr : vx_Run p l e R s m args below meth c H locs cells slots mc ms (F0 m pc ls st0) rest (va_Qf post B A1 a) (vx_X px BX AX) free) (hS : va_S A0 H0 H locs) (hA : ∀ q, q < H.size → A1 q → A0 q) (hf : ∀ q, free q → A0 q) (hAX : ∀ q, q < H.size → AX q → A0 q)
    (kx : ∀ (E : String) (ce : Cell) (q9 : Addr) (u : SX) (t : State) (H1 : Heap) (locs1 : List Loc), t.heap = H1 → s.vm.Alike t.vm → px u → BX E u t → H.size ≤ H1.size → (∀ q : Nat, q < H.size → ¬ AX q → H1[q]? = H[q]?) → va_S A0 H0 H1 locs1 → H1[q9]? = some ce → ce.vm = .none → s.vm.findClass E = some ce.cls → vx_W p l e R s m args below meth c H1 locs1 (cells + mc) (slots + ms) Q (F0 m pc ls rest) q9)
    (kk : ∀ (r : UInt32) (u : S) (t : State) (H1 : Heap) (locs1 : List Loc), t.heap = H1 → s.vm.Alike t.vm → post r u → B u t → H.size ≤ H1.size → (∀ q : Nat, q < H.size → ¬ A1 q → H1[q]? = H[q]?) → va_S A0 H0 H1 locs1 → W p l e R s m args below meth c H1 locs1 (cells + mc) (slots + ms) Q (F0 m (pc + 3) ls (.float r :: rest))) : W p l e R s m args below meth c H locs cells slots Q (F0 m pc ls st0) := by
  intro T hT X
  rcases hr T hT X with ⟨v, st₀, t, T', L, h0, X', hL, e1, e2, ⟨⟨r, u, hv, hp, hb⟩, hF⟩, st⟩ | ⟨q, st₀, t, T', L, E, ce, h0, X', hL, e1, e2, ⟨u, hp, hb, hF⟩, hce, hcv, hcl, st⟩
  · cases hv
    obtain ⟨k1, k2, k3⟩ := vx_keep h0 e1 hS hA hf hL hF
    obtain ⟨t2, a1, b1⟩ := kk r u t T'.heap (locs ++ L) e1.symm (by rw [← e2]; exact X'.warmed.alike) hp hb k1 k2 k3 T' rfl X'
    exact ⟨t2, st t2 a1, b1⟩
  · obtain ⟨k1, k2, k3⟩ := vx_keep h0 e1 hS hAX hf hL hF
    obtain ⟨t2, a1, b1⟩ := kx E ce q u t T'.heap (locs ++ L) e1.symm (by rw [← e2]; exact X'.warmed.alike) hp hb k1 k2 k3 (by rw [e1]; exact hce) hcv hcl T' rfl X'
    exact ⟨t2, st.trans a1, b1⟩
theorem vx_calld {S SX : Type} {post : UInt64 → S → Prop} {px : SX → Prop} {B : S → State → Prop} {BX : String → SX → State → Prop} {AX : Nat → Prop} (hr : vx_Run p l e R s m args below meth c H locs cells slots mc ms (F0 m pc ls st0) rest (va_Qd post B A1 a) (vx_X px BX AX) free) (hS : va_S A0 H0 H locs) (hA : ∀ q, q < H.size → A1 q → A0 q) (hf : ∀ q, free q → A0 q) (hAX : ∀ q, q < H.size → AX q → A0 q)
    (kx : ∀ (E : String) (ce : Cell) (q9 : Addr) (u : SX) (t : State) (H1 : Heap) (locs1 : List Loc), t.heap = H1 → s.vm.Alike t.vm → px u → BX E u t → H.size ≤ H1.size → (∀ q : Nat, q < H.size → ¬ AX q → H1[q]? = H[q]?) → va_S A0 H0 H1 locs1 → H1[q9]? = some ce → ce.vm = .none → s.vm.findClass E = some ce.cls → vx_W p l e R s m args below meth c H1 locs1 (cells + mc) (slots + ms) Q (F0 m pc ls rest) q9)
    (kk : ∀ (r : UInt64) (u : S) (t : State) (H1 : Heap) (locs1 : List Loc), t.heap = H1 → s.vm.Alike t.vm → post r u → B u t → H.size ≤ H1.size → (∀ q : Nat, q < H.size → ¬ A1 q → H1[q]? = H[q]?) → va_S A0 H0 H1 locs1 → W p l e R s m args below meth c H1 locs1 (cells + mc) (slots + ms) Q (F0 m (pc + 3) ls (.double r :: rest))) : W p l e R s m args below meth c H locs cells slots Q (F0 m pc ls st0) := by
  intro T hT X
  rcases hr T hT X with ⟨v, st₀, t, T', L, h0, X', hL, e1, e2, ⟨⟨r, u, hv, hp, hb⟩, hF⟩, st⟩ | ⟨q, st₀, t, T', L, E, ce, h0, X', hL, e1, e2, ⟨u, hp, hb, hF⟩, hce, hcv, hcl, st⟩
  · cases hv
    obtain ⟨k1, k2, k3⟩ := vx_keep h0 e1 hS hA hf hL hF
    obtain ⟨t2, a1, b1⟩ := kk r u t T'.heap (locs ++ L) e1.symm (by rw [← e2]; exact X'.warmed.alike) hp hb k1 k2 k3 T' rfl X'
    exact ⟨t2, st t2 a1, b1⟩
  · obtain ⟨k1, k2, k3⟩ := vx_keep h0 e1 hS hAX hf hL hF
    obtain ⟨t2, a1, b1⟩ := kx E ce q u t T'.heap (locs ++ L) e1.symm (by rw [← e2]; exact X'.warmed.alike) hp hb k1 k2 k3 (by rw [e1]; exact hce) hcv hcl T' rfl X'
    exact ⟨t2, st.trans a1, b1⟩
theorem vx_callv {S SX : Type} {post : S → Prop} {px : SX → Prop} {B : S → State → Prop} {BX : String → SX → State → Prop} {AX : Nat → Prop} (hr : vx_Run p l e R s m args below meth c H locs cells slots mc ms (F0 m pc ls st0) rest (va_Qv post B A1 a) (vx_X px BX AX) free) (hS : va_S A0 H0 H locs) (hA : ∀ q, q < H.size → A1 q → A0 q) (hf : ∀ q, free q → A0 q) (hAX : ∀ q, q < H.size → AX q → A0 q)
    (kx : ∀ (E : String) (ce : Cell) (q9 : Addr) (u : SX) (t : State) (H1 : Heap) (locs1 : List Loc), t.heap = H1 → s.vm.Alike t.vm → px u → BX E u t → H.size ≤ H1.size → (∀ q : Nat, q < H.size → ¬ AX q → H1[q]? = H[q]?) → va_S A0 H0 H1 locs1 → H1[q9]? = some ce → ce.vm = .none → s.vm.findClass E = some ce.cls → vx_W p l e R s m args below meth c H1 locs1 (cells + mc) (slots + ms) Q (F0 m pc ls rest) q9)
    (kk : ∀ (u : S) (t : State) (H1 : Heap) (locs1 : List Loc), t.heap = H1 → s.vm.Alike t.vm → post u → B u t → H.size ≤ H1.size → (∀ q : Nat, q < H.size → ¬ A1 q → H1[q]? = H[q]?) → va_S A0 H0 H1 locs1 → W p l e R s m args below meth c H1 locs1 (cells + mc) (slots + ms) Q (F0 m (pc + 3) ls (rest))) : W p l e R s m args below meth c H locs cells slots Q (F0 m pc ls st0) := by
  intro T hT X
  rcases hr T hT X with ⟨v, st₀, t, T', L, h0, X', hL, e1, e2, ⟨⟨u, hv, hp, hb⟩, hF⟩, st⟩ | ⟨q, st₀, t, T', L, E, ce, h0, X', hL, e1, e2, ⟨u, hp, hb, hF⟩, hce, hcv, hcl, st⟩
  · cases hv
    obtain ⟨k1, k2, k3⟩ := vx_keep h0 e1 hS hA hf hL hF
    obtain ⟨t2, a1, b1⟩ := kk u t T'.heap (locs ++ L) e1.symm (by rw [← e2]; exact X'.warmed.alike) hp hb k1 k2 k3 T' rfl X'
    exact ⟨t2, st t2 a1, b1⟩
  · obtain ⟨k1, k2, k3⟩ := vx_keep h0 e1 hS hAX hf hL hF
    obtain ⟨t2, a1, b1⟩ := kx E ce q u t T'.heap (locs ++ L) e1.symm (by rw [← e2]; exact X'.warmed.alike) hp hb k1 k2 k3 (by rw [e1]; exact hce) hcv hcl T' rfl X'
    exact ⟨t2, st.trans a1, b1⟩
/-- caught by the row x of this method's table; the rows ahead don't take it -/
theorem vx_catch {own name : String} {E : String} {ce : Cell} {q : Addr} (hown : s.vm.findClass own = some m.cls) (pre : List ExceptionTableEntry) (x : ExceptionTableEntry) (suf : List ExceptionTableEntry) (hsplit : c.exceptionTable.toList = pre ++ x :: suf)
    (hpass : ∀ z ∈ pre, covers z pc = false ∨ (z.catchType ≠ 0 ∧ ∃ nm : String, (Cond.classLink own z.catchType nm).before args s = true ∧ va_Nc E nm s)) (hx : covers x pc = true) (h0 : x.catchType ≠ 0)
    (hlink : (Cond.classLink own x.catchType name).before args s = true) (hcast : (Cond.castable E name).before args s = true) (hcell : H[q]? = some ce) (hv : ce.vm = .none) (hcl : s.vm.findClass E = some ce.cls)
    (kk : W p l e R s m args below meth c H locs cells slots Q (F0 m x.handlerPc ls [.ref q])) : vx_W p l e R s m args below meth c H locs cells slots Q (F0 m pc ls rest) q := by
  intro T hT X
  have hpl : e.platform.magicAccessors = ({} : Platform).magicAccessors := by rw [X.admits.platform]
  obtain ⟨c3, c4, hc3, hc4, hasg⟩ := Cond.castable_spec hcast
  cases Option.some.inj (hc3.symm.trans hcl)
  obtain ⟨c5, hc5, hcl5⟩ := Cond.classLink_spec hown hlink e.platform hpl
  cases Option.some.inj (hc4.symm.trans hc5)
  obtain ⟨vm', X', st⟩ := X.thenCaughtThrough q (g := F0 m pc ls rest) rfl (Steps.refl _) (by rw [hT]; exact hcell) (by rw [hv]; rfl) (by obtain ⟨k9, h9, -⟩ := Vm.findClass_spec hcl; exact ⟨k9, h9⟩) pre x suf hsplit
    (fun z hz => by
      rcases hpass z hz with h | ⟨hz0, nm, hl1, hn1⟩
      · exact Or.inl h
      · obtain ⟨c6, hc6, hcl6⟩ := Cond.classLink_spec hown hl1 e.platform hpl
        obtain ⟨a8, b8, h1, h2, h3⟩ := hn1
        cases Option.some.inj (h1.symm.trans hcl)
        cases Option.some.inj (h2.symm.trans hc6)
        exact Or.inr ⟨hz0, _, hcl6, h3⟩) hx (Or.inr ⟨h0, c4, hcl5, hasg⟩)
  obtain ⟨t, a1, b1⟩ := kk (T.setVm vm') hT X'
  exact ⟨t, st.trans a1, b1⟩
end Rows
section Ends
variable {p : Program} {l : Launch} {e : Env} {R : Room} {s : State} {m : MethodId} {args : Array Value} {below : List Frame} {meth : Method} {c : Code} {H : Heap} {locs : List Loc} {cells slots : Nat} {Q : State → Prop}
variable {mc ms : Nat} {free : Addr → Prop} {A0 A1 : Nat → Prop} {H0 : Heap} {a : Array Value} {ls : Array Slot} {st0 rest : List Value}
variable {Qc : Array Value → State → Outcome → State → Prop} {XC : String → State → State → Prop}
/-- what a body that may throw owes at its end -/
def vx_MQ (below : List Frame) (Qc : Array Value → State → Outcome → State → Prop) (XC : String → State → State → Prop) (a : Array Value) (s : State) (mc ms : Nat) (free : Addr → Prop) : State → Prop := fun t =>
  ∃ o, t.status = .running ∧ Ended t below o ∧ vx_Q Qc XC mc ms free a s o t
theorem vx_ret {g : JFrame} {mc ms : Nat} (k : W p l e R s m args below meth c H locs cells slots (MQ below Qc args s mc ms free) g) : W p l e R s m args below meth c H locs cells slots (vx_MQ below Qc XC args s mc ms free) g := by
  intro T hT X
  obtain ⟨t, a1, o, b1, b2, b3, b4⟩ := k T hT X
  exact ⟨t, a1, o, b1, b2, Or.inl ⟨b3, b4⟩⟩
/-- not caught here: it goes on to the caller -/
theorem vx_widen {g : JFrame} {q : Addr} {k n : Nat} (h1 : cells ≤ k) (h2 : slots ≤ n) (kk : vx_W p l e R s m args below meth c H locs k n Q g q) : vx_W p l e R s m args below meth c H locs cells slots Q g q := fun T hT X => kk T hT (stand_widen X h1 h2)
theorem vx_out {pc : Nat} {E : String} {ce : Cell} {q : Addr} {mc ms : Nat} (hout : ∀ x ∈ c.exceptionTable.toList, covers x pc = false) (hlocks : meth.locks = false) (hcell : H[q]? = some ce) (hv : ce.vm = .none) (hcl : s.vm.findClass E = some ce.cls)
    (hx : ∀ t : State, t.heap = H → s.vm.Alike t.vm → XC E s t) (hf : ∀ z ∈ locs, free z.base) (hc : cells ≤ mc) (hs : slots ≤ ms) :
    vx_W p l e R s m args below meth c H locs cells slots (vx_MQ below Qc XC args s mc ms free) (F0 m pc ls rest) q := by
  intro T hT X
  obtain ⟨st1, hrun, hend, hW, hsm⟩ := X.leaveThrown q (g := F0 m pc ls rest) rfl rfl rfl hout hlocks
  have hcell9 : (T.setFrames (.throwing q :: below)).heap[q]? = some ce := by
    show T.heap[q]? = some ce
    rw [hT]; exact hcell
  exact ⟨_, st1, .threw q, hrun, hend, Or.inr ⟨q, rfl, E, ce, locs, hx _ hT hW.alike, hcell9, hv, hcl, hW, hsm.mono hc hs, hf⟩⟩
theorem vx_frame {U : State} {k n : Nat} (h : s.sameButNew ({ U with vm := s.vm } : State) locs k n) : s.heap.size ≤ U.heap.size ∧ ∀ q : Nat, q < s.heap.size → (∀ z ∈ locs, z.base ≠ q) → U.heap[q]? = s.heap[q]? := by
  obtain ⟨-, h2, -, -, -, h6⟩ := h
  refine ⟨h2, fun q hq hz => ?_⟩
  obtain ⟨c9, e1, e2, e3, e4⟩ := h6 q _ (Array.getElem?_eq_getElem hq)
  have hs : c9.slots = (s.heap[q]).slots := Array.ext_getElem? fun i => e4 i fun hm => hz _ hm rfl
  have h9 : c9 = s.heap[q] := by
    rw [hs] at e2
    exact e2
  have e5 : U.heap[q]? = some c9 := e1
  rw [e5, h9, Array.getElem?_eq_getElem hq]
/-- the words of a throw but the four that speak of the heap -/
def vx_no (w : Cond) : Bool := decide (w ≠ .isRef (.static Bundle.tN "UNASSIGNED_STACK" Bundle.steD)) && decide (w ≠ .isRef (.static Bundle.tN "SUPPRESSED_SENTINEL" Bundle.listD)) && decide (w ≠ .laysStatic Bundle.tN "UNASSIGNED_STACK" Bundle.steD) && decide (w ≠ .laysStatic Bundle.tN "SUPPRESSED_SENTINEL" Bundle.listD)
def vx_at0 (own : String) (ic : Nat) (X : String) (names : List String) : List Cond := (Bundle.ownAtoms0 own ic X names).filter vx_no
def vx_atS (own : String) (ic : Nat) (X : String) (names : List String) : List Cond := (Bundle.ownAtoms own ic X names).filter vx_no
/-- a word that the tables alone decide, or a good one -/
def vx_ot (w : Cond) : Bool := w.onTables || goodWord w
theorem vx_ot_at {args a' : Array Value} {s U : State} {w : Cond} (hW : s.WarmedH U.vm) (hvm : s.vm = U.vm) (hg : vx_ot w = true) (h : w.before args s = true) : w.before a' U = true := by
  simp only [vx_ot, Bool.or_eq_true] at hg
  rcases hg with hg | hg
  · exact va_tabs hg hvm h
  · exact word_at hW (good_of_word hg) h
/-- a list's words: the good ones out of the method's own list, the others by premises of their own -/
theorem vx_hat {args : Array Value} {s : State} {L B : List Cond} (h1 : ∀ w ∈ L.filter goodWord, w.before args s = true) (h2 : ∀ w ∈ L.filter (fun w => !goodWord w), w ∈ B) (h3 : ∀ w ∈ B, w.before args s = true) : ∀ w ∈ L, w.before args s = true := by
  intro w hw
  by_cases g : goodWord w = true
  · exact h1 w (List.mem_filter.mpr ⟨hw, g⟩)
  · refine h3 w (h2 w (List.mem_filter.mpr ⟨hw, ?_⟩))
    show (!goodWord w) = true
    cases hgw : goodWord w
    · rfl
    · exact absurd hgw g
theorem vx_c {args : Array Value} {s : State} {w : Cond} {B : List Cond} (h : w.before args s = true) (t : ∀ w ∈ B, w.before args s = true) : ∀ w' ∈ w :: B, w'.before args s = true := fun w' h' => (List.mem_cons.mp h').elim (fun e => by rw [e]; exact h) (t w')
theorem vx_n {args : Array Value} {s : State} : ∀ w ∈ ([] : List Cond), w.before args s = true := fun _ h => nomatch h
theorem vx_own {args : Array Value} {s : State} {L : List Cond} (h1 : ∀ w ∈ L.filter vx_no, w.before args s = true)
    (hU : (Cond.isRef (.static Bundle.tN "UNASSIGNED_STACK" Bundle.steD)).before args s = true) (hN : (Cond.isRef (.static Bundle.tN "SUPPRESSED_SENTINEL" Bundle.listD)).before args s = true)
    (lU : (Cond.laysStatic Bundle.tN "UNASSIGNED_STACK" Bundle.steD).before args s = true) (lN : (Cond.laysStatic Bundle.tN "SUPPRESSED_SENTINEL" Bundle.listD).before args s = true) : ∀ w ∈ L, w.before args s = true := by
  intro w hw
  by_cases e1 : w = .isRef (.static Bundle.tN "UNASSIGNED_STACK" Bundle.steD)
  · rw [e1]; exact hU
  · by_cases e2 : w = .isRef (.static Bundle.tN "SUPPRESSED_SENTINEL" Bundle.listD)
    · rw [e2]; exact hN
    · by_cases e3 : w = .laysStatic Bundle.tN "UNASSIGNED_STACK" Bundle.steD
      · rw [e3]; exact lU
      · by_cases e4 : w = .laysStatic Bundle.tN "SUPPRESSED_SENTINEL" Bundle.listD
        · rw [e4]; exact lN
        · exact h1 w (List.mem_filter.mpr ⟨hw, by unfold vx_no; rw [decide_eq_true e1, decide_eq_true e2, decide_eq_true e3, decide_eq_true e4]; rfl⟩)
/-- where a static field lies, its class's statics cell in H -/
def vx_L (C n d : String) (A : Nat → Prop) (U : State) (H : Heap) : Prop := ∃ (c : ClassId) (k : Class) (i : Nat) (f : Field) (a : Nat) (cell : Cell), U.vm.findClass C = some c ∧ U.fieldFound? C n d = some (c, k, i, f) ∧ f.isStatic = true ∧ k.statics = some a ∧ H[a]? = some cell ∧ cell.vm.isStatics = true ∧ cell.cls = c ∧ f.slot < cell.slots.size ∧ k.staticTypes[f.slot]? = some f.type ∧ ¬ A a
theorem vx_L.moved {C n d : String} {A : Nat → Prop} {u U : State} {H : Heap} (hvm : u.vm.Alike U.vm) (h : vx_L C n d A u H) : vx_L C n d A U H := by
  obtain ⟨c, k, i, f, a, cell, h1, h2, h3, h4, h5, h6, h7, h8, h9, h10⟩ := h
  obtain ⟨k', hi', he⟩ := State.fieldFound?_setVm hvm h2
  exact ⟨c, k', i, f, a, cell, by rw [hvm.findClass]; exact h1, hi', h3, by rw [he]; exact h4, h5, h6, h7, h8, by rw [he]; exact h9, h10⟩
theorem vx_L.kept {C n d : String} {A : Nat → Prop} {U : State} {H H1 : Heap} (h : vx_L C n d A U H) (hq : ∀ a : Nat, a < H.size → ¬ A a → H1[a]? = H[a]?) : vx_L C n d A U H1 := by
  obtain ⟨c, k, i, f, a, cell, h1, h2, h3, h4, h5, h6, h7, h8, h9, h10⟩ := h
  exact ⟨c, k, i, f, a, cell, h1, h2, h3, h4, by rw [hq a (Array.getElem?_eq_some_iff.mp h5).1 h10]; exact h5, h6, h7, h8, h9, h10⟩
theorem vx_L.narrow {C n d : String} {A B : Nat → Prop} {U : State} {H : Heap} (h : vx_L C n d A U H) (hAB : ∀ q, B q → A q) : vx_L C n d B U H := by
  obtain ⟨c, k, i, f, a, cell, h1, h2, h3, h4, h5, h6, h7, h8, h9, h10⟩ := h
  exact ⟨c, k, i, f, a, cell, h1, h2, h3, h4, h5, h6, h7, h8, h9, fun z => h10 (hAB _ z)⟩
theorem vx_L.word {C n d : String} {A : Nat → Prop} {s : State} {args : Array Value} (h : vx_L C n d A s s.heap) : (Cond.laysStatic C n d).before args s = true := by
  obtain ⟨c, k, i, f, a, cell, h1, h2, h3, h4, h5, h6, h7, h8, h9, -⟩ := h
  show (Cond.laysStatic C n d).holds args s none s [] = true
  exact Cond.laysStatic_of h1 h2 h3 h4 h5 h6 h7 h8 h9
/-- .. and what it holds: null or some reference -/
def vx_Zq (C n d : String) (A : Nat → Prop) (U : State) (H : Heap) : Prop := va_Zq C n d A U H ∧ vx_L C n d A U H
theorem vx_Zq.moved {C n d : String} {A : Nat → Prop} {u U : State} {H : Heap} (hvm : u.vm.Alike U.vm) (h : vx_Zq C n d A u H) : vx_Zq C n d A U H := ⟨va_Zq.moved hvm h.1, vx_L.moved hvm h.2⟩
theorem vx_Zq.kept {C n d : String} {A : Nat → Prop} {U : State} {H H1 : Heap} (h : vx_Zq C n d A U H) (hq : ∀ a : Nat, a < H.size → ¬ A a → H1[a]? = H[a]?) : vx_Zq C n d A U H1 := ⟨va_Zq.kept h.1 hq, vx_L.kept h.2 hq⟩
theorem vx_Zq.narrow {C n d : String} {A B : Nat → Prop} {U : State} {H : Heap} (h : vx_Zq C n d A U H) (hAB : ∀ q, B q → A q) : vx_Zq C n d B U H := ⟨va_Zq.narrow h.1 hAB, vx_L.narrow h.2 hAB⟩
theorem vx_Zqof {args : Array Value} {s : State} {C n d : String} {A : Nat → Prop} (hl : (Cond.laysStatic C n d).before args s = true) (hini : (Cond.initialized C).before args s = true) (h : (Cond.isRef (.static C n d)).before args s = true) (hA : ∀ a : Nat, a < s.heap.size → ¬ A a) : vx_Zq C n d A s s.heap := by
  refine ⟨va_Zqof hl hini h hA, ?_⟩
  obtain ⟨c, k, i, f, a, cell, h1, h2, h3, h4, h5, h6, h7, h8, h9⟩ := Cond.laysStatic_spec hl
  exact ⟨c, k, i, f, a, cell, h1, h2, h3, h4, h5, h6, h7, h8, h9, hA a (Array.getElem?_eq_some_iff.mp h5).1⟩
theorem vx_isRef {C n d : String} {v : Value} {A : Nat → Prop} {s : State} {args : Array Value} (h : va_Z C n d v A s s.heap) (hv : v.isRef = true) : (Cond.isRef (.static C n d)).before args s = true := by
  obtain ⟨cf, kf, fi, f, a, cell, h1, h2, h3, h4, h5, h6, h7, -⟩ := h
  have he : (Term.static C n d).eval args s none [] s = some v := by
    simp [Term.eval, State.fieldNamed?, h1, h2, h4, h5, h6, h7]
  simp only [Cond.before, Cond.holds, Cond.value, he]
  cases v <;> simp_all [Value.isRef]
theorem vx_isRefq {C n d : String} {A : Nat → Prop} {s : State} {args : Array Value} (h : va_Zq C n d A s s.heap) : (Cond.isRef (.static C n d)).before args s = true := by
  rcases h with h | ⟨t, h⟩
  · exact vx_isRef h rfl
  · exact vx_isRef h rfl
/-- the same frame, seen from here: as if the method were called anew in this heap -/
theorem vx_rebase {T : State} (X : Stand p l e R s m args below meth c T locs cells slots) {R' : Room} (hf : R'.frames ≤ R.frames) (hl : R'.locals ≤ R.locals) (hc : cells + R'.cells ≤ R.cells) (hs : slots + R'.slots ≤ R.slots) :
    Stand p l e R' ((T.setVm s.vm).setFrames (.invoking m args :: below)) m args below meth c T [] 0 0 := by
  have htop : (T.setVm s.vm).topJava?.isSome := X.here.top
  have hF : ((T.setVm s.vm).setFrames (.invoking m args :: below)).frames = .invoking m args :: below := State.frames_setFrames _ (State.cur_lt_of_top htop)
  obtain ⟨g₀, hg0⟩ := Option.isSome_iff_exists.mp htop
  obtain ⟨r, hr⟩ := State.topJava?_eq_some.mp hg0
  have hl9 : e.platform.stackLimits (T.setVm s.vm).me = e.platform.stackLimits s.me := X.limits
  have hb9 : (T.setVm s.vm).me.stackBytes = s.me.stackBytes := X.bytes
  refine ⟨X.admits, X.cas, X.clock, hF, ?_, X.hears, X.method, X.code, X.here, X.tail, X.warmed, ?_, ?_, ?_⟩
  · have h := X.room
    have hU : ((T.setVm s.vm).setFrames (.invoking m args :: below)).localsInUse = s.localsInUse := by
      rw [State.localsInUse_invoking hF (meth := meth) (c := c) X.method X.code, State.localsInUse_invoking X.frames X.method X.code]
    simp only [State.hasRoom, Bool.and_eq_true, decide_eq_true_eq] at h ⊢
    obtain ⟨⟨⟨⟨h1, h2, h3, h4, h5, h6⟩, h7⟩, h8⟩, h9⟩ := h
    rw [X.frames, List.length_cons] at h2 h3
    have q1 := X.heapSize
    have q2 := X.used
    simp only [hF, hU, List.length_cons, State.stackLimits_setFrames, State.stackBytes_setFrames, hl9, hb9]
    refine ⟨⟨⟨⟨by omega, by omega, by omega, by omega, by omega, h6⟩, ?_⟩, ?_⟩, X.book⟩
    · show T.heap.size + R'.cells ≤ e.platform.maxCells
      omega
    · show T.slotsUsed + R'.slots ≤ e.platform.maxSlots
      omega
  · rw [State.stackLimits_setFrames]; rfl
  · rw [State.stackBytes_setFrames]; rfl
  · refine ⟨?_, Nat.le_refl _, Nat.le_refl _, ?_, ?_, fun a c9 h9 => ⟨c9, h9, rfl, rfl, fun _ _ => rfl⟩⟩
    · obtain ⟨t, ht, -⟩ := State.frames_cons hr
      show T.setVm s.vm = { ((T.setVm s.vm).setFrames (.invoking m args :: below)).setFrames (T.setVm s.vm).frames with heap := T.heap, slotsUsed := T.slotsUsed }
      rw [State.setFrames_setFrames, State.setFrames_self ht]
      rfl
    · show T.slotsUsed = T.slotsUsed + ((T.heap.toList.drop T.heap.size).map (·.slots.size)).sum
      rw [List.drop_eq_nil_of_le (Nat.le_of_eq Array.length_toList)]
      rfl
    · show ((T.heap.toList.drop T.heap.size).map (·.slots.size)).sum ≤ 0
      rw [List.drop_eq_nil_of_le (Nat.le_of_eq Array.length_toList)]
      exact Nat.le_refl _
/-- 'throw new E()': new; dup; invokespecial; athrow -/
theorem vx_throw0 {cc : ByteArray} {pc : Nat} (hexec : p.tables.exec = Jvm.exec) (hb : c.code = cc) (hl : l.stackTraces = false) {own cls : String} {names : List String} {ik ic mc ms : Nat} {A : Nat → Prop}
    (hown : s.vm.findClass own = some m.cls) (hcls : Bundle.fit cls = true) (hnames : ∀ n ∈ names, Bundle.fit n = true)
    (hk : (Cond.classLink own ik cls).before args s = true) (hini : (Cond.initialized cls).before args s = true) (hat : ∀ w ∈ vx_at0 own ic cls names, w.before args s = true)
    (hgood : ∀ w ∈ Cond.classLink own ik cls :: Cond.initialized cls :: vx_at0 own ic cls names, vx_ot w = true)
    (hU : vx_Zq Bundle.tN "UNASSIGNED_STACK" Bundle.steD A s s.heap) (hN : vx_Zq Bundle.tN "SUPPRESSED_SENTINEL" Bundle.listD A s s.heap) (hS : va_S A s.heap H locs) (hsize : ls.size = c.maxLocals)
    (d0 : decode cc pc = .ok (.new ik, 3)) (d3 : decode cc (pc + 3) = .ok (.dup, 1)) (d4 : decode cc (pc + 4) = .ok (.invokespecial ic, 3)) (d7 : decode cc (pc + 7) = .ok (.athrow, 1))
    (hout : ∀ x ∈ c.exceptionTable.toList, covers x (pc + 7) = false)
    (hRframes : names.length + 3 < R.frames) (hRlocals : (rest.map fun v => v.category).sum + (13 * (names.length + 1) + 42) ≤ R.locals) (hRcells : cells + 1 ≤ R.cells) (hRslots : slots + 6 ≤ R.slots) (hlocks : meth.locks = false)
    (hx : ∀ t : State, s.vm.Alike t.vm → H.size ≤ t.heap.size → (∀ q : Nat, q < H.size → t.heap[q]? = H[q]?) → XC cls s t)
    (hf : ∀ z ∈ locs, free z.base) (hc : cells + 1 ≤ mc) (hs : slots + 6 ≤ ms) :
    W p l e R s m args below meth c H locs cells slots (vx_MQ below Qc XC args s mc ms free) (F0 m pc ls rest) := by
  intro T hT X
  have htr : e.platform.stackTraces = false := (show e.platform.stackTraces = l.stackTraces by rw [X.admits.platform]).trans hl
  have Y := vx_rebase X (R' := { frames := R.frames, locals := R.locals, cells := 1, slots := 6 }) (Nat.le_refl _) (Nat.le_refl _) hRcells hRslots
  obtain ⟨s', hA⟩ : ∃ z, z = (T.setVm s.vm).setFrames (.invoking m args :: below) := ⟨_, rfl⟩
  rw [← hA] at Y
  have hvm : s'.vm = s.vm := by rw [hA]; rfl
  have hhp : s'.heap = H := by rw [hA]; exact hT
  have hW0 : s.WarmedH s'.vm := by rw [hvm]; exact State.WarmedH.refl s
  have hat' : ∀ w ∈ vx_at0 own ic cls names, w.before args s' = true := fun w hw => vx_ot_at hW0 hvm.symm (hgood w (List.mem_cons_of_mem _ (List.mem_cons_of_mem _ hw))) (hat w hw)
  have hk' : (Cond.classLink own ik cls).before args s' = true := vx_ot_at hW0 hvm.symm (hgood _ List.mem_cons_self) hk
  have hini' : (Cond.initialized cls).before args s' = true := vx_ot_at hW0 hvm.symm (hgood _ (List.mem_cons_of_mem _ List.mem_cons_self)) hini
  have hU' : vx_Zq Bundle.tN "UNASSIGNED_STACK" Bundle.steD A s' s'.heap := by rw [hhp]; exact vx_Zq.moved hW0.alike (hU.kept hS.2.1)
  have hN' : vx_Zq Bundle.tN "SUPPRESSED_SENTINEL" Bundle.listD A s' s'.heap := by rw [hhp]; exact vx_Zq.moved hW0.alike (hN.kept hS.2.1)
  have h : ∀ w ∈ Bundle.ownAtoms0 own ic cls names, w.before args s' = true := vx_own hat' (vx_isRefq hU'.1) (vx_isRefq hN'.1) hU'.2.word hN'.2.word
  have hown' : s'.vm.findClass own = some m.cls := by rw [hvm]; exact hown
  have hins : (Cond.instantiable cls 6).before args s' = true := h _ (by simp [Bundle.ownAtoms0])
  obtain ⟨vm₁, cX, kX, hfX, hkX, -, -, X₁, st1⟩ := Y.newCold hexec (own := own) (C := cls) (index := ik) (n := 6) hown' hk' hins hini'
    (g := F0 m pc ls rest) rfl (by rw [hb]; exact d0) (Nat.le_refl _) (Nat.le_refl _)
  generalize hT1 : (T.setVm vm₁).pushCell { cls := cX, slots := kX.instanceTypes.map defaultValue, vm := .none } = T1 at X₁ st1
  have hcat : (Value.ref T.heap.size).category = 1 := rfl
  have hcellA : T1.heap[T.heap.size]? = some (freshCell cX kX) := by rw [← hT1]; exact State.heap_pushCell_size _ _
  have d3' : decode c.code (pc + 3) = .ok (.dup, 1) := by rw [hb]; exact d3
  obtain ⟨U, hsteps, hrun, hend, hW, hsame, ce, hce, hO⟩ := X₁.ctorThrow0 hexec htr (own := own) (cls := cls) (names := names) (ic := ic) hown' hcls hnames h (fun x hx => nomatch hx) hfX hkX hcellA (by rw [hhp, hT]; exact Nat.le_refl _)
    (g := { method := m, pc := pc + 4, locals := ls, stack := .ref T.heap.size :: .ref T.heap.size :: rest, locked := none }) rfl hsize rfl rfl (rest := rest) rfl
    (by rw [hb]; exact d4) (by rw [hb]; exact d7) hout hRframes (by simp only [List.map_cons, List.sum_cons, hcat]; omega) hlocks
  obtain ⟨f1, f2⟩ := vx_frame hsame
  rw [hhp] at f1 f2
  have hWs : s.WarmedH U.vm := State.WarmedH.trans hW0 hW
  have hcl : s.vm.findClass cls = some ce.cls := by
    have h9 := hO.cls
    rw [hvm] at h9
    exact h9
  have hall : s.sameButNew ({ U with vm := s.vm } : State) locs mc ms := by
    subst hA
    obtain ⟨e1, e2⟩ := hsame
    rw [State.setFrames_setFrames] at e1
    have h2 : (T.setVm s.vm).sameButNew ({ U with vm := s.vm } : State) [] (0 + 1) (0 + 6) := ⟨e1, e2⟩
    have h3 := X.same.trans h2
    rw [List.append_nil] at h3
    exact h3.mono hc hs
  refine ⟨U, ?_, .threw T.heap.size, hrun, hend, Or.inr ⟨T.heap.size, rfl, cls, ce, locs, hx U hWs.alike f1 (fun q hq => f2 q hq (fun z hz => nomatch hz)), hce, hO.vm, hcl, hWs, hall, hf⟩⟩
  refine st1 _ ?_
  show Steps p.tables e below (T1.setTop { method := m, pc := pc + 3, locals := ls, stack := .ref T.heap.size :: rest, locked := none }) _
  jvm_step X₁.here [X₁.here.top, hexec, d3', Value.category]
  exact hsteps
/-- 'throw new E("text")': new; dup; ldc; invokespecial; athrow -/
theorem vx_throwS {cc : ByteArray} {pc : Nat} (hexec : p.tables.exec = Jvm.exec) (hb : c.code = cc) (hl : l.stackTraces = false) {own cls text : String} {names : List String} {ik is ic mc ms sa : Nat} {A : Nat → Prop}
    (hown : s.vm.findClass own = some m.cls) (hcls : Bundle.fit cls = true) (hnames : ∀ n ∈ names, Bundle.fit n = true)
    (hk : (Cond.classLink own ik cls).before args s = true) (hini : (Cond.initialized cls).before args s = true) (hstr : vk_R own is text sa s) (hat : ∀ w ∈ vx_atS own ic cls names, w.before args s = true)
    (hgood : ∀ w ∈ Cond.classLink own ik cls :: Cond.initialized cls :: vx_atS own ic cls names, vx_ot w = true)
    (hU : vx_Zq Bundle.tN "UNASSIGNED_STACK" Bundle.steD A s s.heap) (hN : vx_Zq Bundle.tN "SUPPRESSED_SENTINEL" Bundle.listD A s s.heap) (hS : va_S A s.heap H locs) (hsize : ls.size = c.maxLocals)
    (d0 : decode cc pc = .ok (.new ik, 3)) (d3 : decode cc (pc + 3) = .ok (.dup, 1)) (d4 : decode cc (pc + 4) = .ok (.ldc is, 2)) (d6 : decode cc (pc + 6) = .ok (.invokespecial ic, 3)) (d9 : decode cc (pc + 9) = .ok (.athrow, 1))
    (hout : ∀ x ∈ c.exceptionTable.toList, covers x (pc + 9) = false)
    (hRframes : names.length + 3 < R.frames) (hRlocals : (rest.map fun v => v.category).sum + (13 * (names.length + 1) + 43) ≤ R.locals) (hRcells : cells + 1 ≤ R.cells) (hRslots : slots + 6 ≤ R.slots) (hlocks : meth.locks = false)
    (hx : ∀ t : State, s.vm.Alike t.vm → H.size ≤ t.heap.size → (∀ q : Nat, q < H.size → t.heap[q]? = H[q]?) → XC cls s t)
    (hf : ∀ z ∈ locs, free z.base) (hc : cells + 1 ≤ mc) (hs : slots + 6 ≤ ms) :
    W p l e R s m args below meth c H locs cells slots (vx_MQ below Qc XC args s mc ms free) (F0 m pc ls rest) := by
  intro T hT X
  have htr : e.platform.stackTraces = false := (show e.platform.stackTraces = l.stackTraces by rw [X.admits.platform]).trans hl
  have Y := vx_rebase X (R' := { frames := R.frames, locals := R.locals, cells := 1, slots := 6 }) (Nat.le_refl _) (Nat.le_refl _) hRcells hRslots
  obtain ⟨s', hA⟩ : ∃ z, z = (T.setVm s.vm).setFrames (.invoking m args :: below) := ⟨_, rfl⟩
  rw [← hA] at Y
  have hvm : s'.vm = s.vm := by rw [hA]; rfl
  have hhp : s'.heap = H := by rw [hA]; exact hT
  have hW0 : s.WarmedH s'.vm := by rw [hvm]; exact State.WarmedH.refl s
  have hat' : ∀ w ∈ vx_atS own ic cls names, w.before args s' = true := fun w hw => vx_ot_at hW0 hvm.symm (hgood w (List.mem_cons_of_mem _ (List.mem_cons_of_mem _ hw))) (hat w hw)
  have hk' : (Cond.classLink own ik cls).before args s' = true := vx_ot_at hW0 hvm.symm (hgood _ List.mem_cons_self) hk
  have hini' : (Cond.initialized cls).before args s' = true := vx_ot_at hW0 hvm.symm (hgood _ (List.mem_cons_of_mem _ List.mem_cons_self)) hini
  have hU' : vx_Zq Bundle.tN "UNASSIGNED_STACK" Bundle.steD A s' s'.heap := by rw [hhp]; exact vx_Zq.moved hW0.alike (hU.kept hS.2.1)
  have hN' : vx_Zq Bundle.tN "SUPPRESSED_SENTINEL" Bundle.listD A s' s'.heap := by rw [hhp]; exact vx_Zq.moved hW0.alike (hN.kept hS.2.1)
  have h : ∀ w ∈ Bundle.ownAtoms own ic cls names, w.before args s' = true := vx_own hat' (vx_isRefq hU'.1) (vx_isRefq hN'.1) hU'.2.word hN'.2.word
  have hown' : s'.vm.findClass own = some m.cls := by rw [hvm]; exact hown
  have hins : (Cond.instantiable cls 6).before args s' = true := h _ (by simp [Bundle.ownAtoms])
  obtain ⟨vm₁, cX, kX, hfX, hkX, -, -, X₁, st1⟩ := Y.newCold hexec (own := own) (C := cls) (index := ik) (n := 6) hown' hk' hins hini'
    (g := F0 m pc ls rest) rfl (by rw [hb]; exact d0) (Nat.le_refl _) (Nat.le_refl _)
  generalize hT1 : (T.setVm vm₁).pushCell { cls := cX, slots := kX.instanceTypes.map defaultValue, vm := .none } = T1 at X₁ st1
  have hcat : (Value.ref T.heap.size).category = 1 := rfl
  have hcellA : T1.heap[T.heap.size]? = some (freshCell cX kX) := by rw [← hT1]; exact State.heap_pushCell_size _ _
  have d3' : decode c.code (pc + 3) = .ok (.dup, 1) := by rw [hb]; exact d3
  have d4' : decode c.code (pc + 4) = .ok (.ldc is, 2) := by rw [hb]; exact d4
  have hstr' : vk_R own is text sa s' := vk_R.warm hW0 hstr
  obtain ⟨U, hsteps, hrun, hend, hW, hsame, ce, hce, hO⟩ := X₁.ctorThrowS hexec htr (own := own) (cls := cls) (names := names) (ic := ic) hown' hcls hnames h (fun x hx => nomatch hx) hfX hkX hcellA (by rw [hhp, hT]; exact Nat.le_refl _) (msg := .ref sa) rfl
    (g := { method := m, pc := pc + 6, locals := ls, stack := .ref sa :: .ref T.heap.size :: .ref T.heap.size :: rest, locked := none }) rfl hsize rfl rfl (rest := rest) rfl
    (by rw [hb]; exact d6) (by rw [hb]; exact d9) hout hRframes (by simp only [List.map_cons, List.sum_cons, hcat]; omega) hlocks
  obtain ⟨f1, f2⟩ := vx_frame hsame
  rw [hhp] at f1 f2
  have hWs : s.WarmedH U.vm := State.WarmedH.trans hW0 hW
  have hcl : s.vm.findClass cls = some ce.cls := by
    have h9 := hO.cls
    rw [hvm] at h9
    exact h9
  have hall : s.sameButNew ({ U with vm := s.vm } : State) locs mc ms := by
    subst hA
    obtain ⟨e1, e2⟩ := hsame
    rw [State.setFrames_setFrames] at e1
    have h2 : (T.setVm s.vm).sameButNew ({ U with vm := s.vm } : State) [] (0 + 1) (0 + 6) := ⟨e1, e2⟩
    have h3 := X.same.trans h2
    rw [List.append_nil] at h3
    exact h3.mono hc hs
  refine ⟨U, ?_, .threw T.heap.size, hrun, hend, Or.inr ⟨T.heap.size, rfl, cls, ce, locs, hx U hWs.alike f1 (fun q hq => f2 q hq (fun z hz => nomatch hz)), hce, hO.vm, hcl, hWs, hall, hf⟩⟩
  refine st1 _ ?_
  show Steps p.tables e below (T1.setTop { method := m, pc := pc + 3, locals := ls, stack := .ref T.heap.size :: rest, locked := none }) _
  jvm_step X₁.here [X₁.here.top, hexec, d3', Value.category]
  exact X₁.ldcString hexec (own := own) (text := text) (index := is) (a := sa) hown' hstr'.1 hstr'.2
    (g := { method := m, pc := pc + 4, locals := ls, stack := .ref T.heap.size :: .ref T.heap.size :: rest, locked := none }) rfl d4' _ hsteps
/-- 'throw new E("text")', the text by a wide index -/
theorem vx_throwSW {cc : ByteArray} {pc : Nat} (hexec : p.tables.exec = Jvm.exec) (hb : c.code = cc) (hl : l.stackTraces = false) {own cls text : String} {names : List String} {ik is ic mc ms sa : Nat} {A : Nat → Prop}
    (hown : s.vm.findClass own = some m.cls) (hcls : Bundle.fit cls = true) (hnames : ∀ n ∈ names, Bundle.fit n = true)
    (hk : (Cond.classLink own ik cls).before args s = true) (hini : (Cond.initialized cls).before args s = true) (hstr : vk_R own is text sa s) (hat : ∀ w ∈ vx_atS own ic cls names, w.before args s = true)
    (hgood : ∀ w ∈ Cond.classLink own ik cls :: Cond.initialized cls :: vx_atS own ic cls names, vx_ot w = true)
    (hU : vx_Zq Bundle.tN "UNASSIGNED_STACK" Bundle.steD A s s.heap) (hN : vx_Zq Bundle.tN "SUPPRESSED_SENTINEL" Bundle.listD A s s.heap) (hS : va_S A s.heap H locs) (hsize : ls.size = c.maxLocals)
    (d0 : decode cc pc = .ok (.new ik, 3)) (d3 : decode cc (pc + 3) = .ok (.dup, 1)) (d4 : decode cc (pc + 4) = .ok (.ldc_w is, 3)) (d7 : decode cc (pc + 7) = .ok (.invokespecial ic, 3)) (d10 : decode cc (pc + 10) = .ok (.athrow, 1))
    (hout : ∀ x ∈ c.exceptionTable.toList, covers x (pc + 10) = false)
    (hRframes : names.length + 3 < R.frames) (hRlocals : (rest.map fun v => v.category).sum + (13 * (names.length + 1) + 43) ≤ R.locals) (hRcells : cells + 1 ≤ R.cells) (hRslots : slots + 6 ≤ R.slots) (hlocks : meth.locks = false)
    (hx : ∀ t : State, s.vm.Alike t.vm → H.size ≤ t.heap.size → (∀ q : Nat, q < H.size → t.heap[q]? = H[q]?) → XC cls s t)
    (hf : ∀ z ∈ locs, free z.base) (hc : cells + 1 ≤ mc) (hs : slots + 6 ≤ ms) :
    W p l e R s m args below meth c H locs cells slots (vx_MQ below Qc XC args s mc ms free) (F0 m pc ls rest) := by
  intro T hT X
  have htr : e.platform.stackTraces = false := (show e.platform.stackTraces = l.stackTraces by rw [X.admits.platform]).trans hl
  have Y := vx_rebase X (R' := { frames := R.frames, locals := R.locals, cells := 1, slots := 6 }) (Nat.le_refl _) (Nat.le_refl _) hRcells hRslots
  obtain ⟨s', hA⟩ : ∃ z, z = (T.setVm s.vm).setFrames (.invoking m args :: below) := ⟨_, rfl⟩
  rw [← hA] at Y
  have hvm : s'.vm = s.vm := by rw [hA]; rfl
  have hhp : s'.heap = H := by rw [hA]; exact hT
  have hW0 : s.WarmedH s'.vm := by rw [hvm]; exact State.WarmedH.refl s
  have hat' : ∀ w ∈ vx_atS own ic cls names, w.before args s' = true := fun w hw => vx_ot_at hW0 hvm.symm (hgood w (List.mem_cons_of_mem _ (List.mem_cons_of_mem _ hw))) (hat w hw)
  have hk' : (Cond.classLink own ik cls).before args s' = true := vx_ot_at hW0 hvm.symm (hgood _ List.mem_cons_self) hk
  have hini' : (Cond.initialized cls).before args s' = true := vx_ot_at hW0 hvm.symm (hgood _ (List.mem_cons_of_mem _ List.mem_cons_self)) hini
  have hU' : vx_Zq Bundle.tN "UNASSIGNED_STACK" Bundle.steD A s' s'.heap := by rw [hhp]; exact vx_Zq.moved hW0.alike (hU.kept hS.2.1)
  have hN' : vx_Zq Bundle.tN "SUPPRESSED_SENTINEL" Bundle.listD A s' s'.heap := by rw [hhp]; exact vx_Zq.moved hW0.alike (hN.kept hS.2.1)
  have h : ∀ w ∈ Bundle.ownAtoms own ic cls names, w.before args s' = true := vx_own hat' (vx_isRefq hU'.1) (vx_isRefq hN'.1) hU'.2.word hN'.2.word
  have hown' : s'.vm.findClass own = some m.cls := by rw [hvm]; exact hown
  have hins : (Cond.instantiable cls 6).before args s' = true := h _ (by simp [Bundle.ownAtoms])
  obtain ⟨vm₁, cX, kX, hfX, hkX, -, -, X₁, st1⟩ := Y.newCold hexec (own := own) (C := cls) (index := ik) (n := 6) hown' hk' hins hini'
    (g := F0 m pc ls rest) rfl (by rw [hb]; exact d0) (Nat.le_refl _) (Nat.le_refl _)
  generalize hT1 : (T.setVm vm₁).pushCell { cls := cX, slots := kX.instanceTypes.map defaultValue, vm := .none } = T1 at X₁ st1
  have hcat : (Value.ref T.heap.size).category = 1 := rfl
  have hcellA : T1.heap[T.heap.size]? = some (freshCell cX kX) := by rw [← hT1]; exact State.heap_pushCell_size _ _
  have d3' : decode c.code (pc + 3) = .ok (.dup, 1) := by rw [hb]; exact d3
  have d4' : decode c.code (pc + 4) = .ok (.ldc_w is, 3) := by rw [hb]; exact d4
  have hstr' : vk_R own is text sa s' := vk_R.warm hW0 hstr
  obtain ⟨U, hsteps, hrun, hend, hW, hsame, ce, hce, hO⟩ := X₁.ctorThrowS hexec htr (own := own) (cls := cls) (names := names) (ic := ic) hown' hcls hnames h (fun x hx => nomatch hx) hfX hkX hcellA (by rw [hhp, hT]; exact Nat.le_refl _) (msg := .ref sa) rfl
    (g := { method := m, pc := pc + 7, locals := ls, stack := .ref sa :: .ref T.heap.size :: .ref T.heap.size :: rest, locked := none }) rfl hsize rfl rfl (rest := rest) rfl
    (by rw [hb]; exact d7) (by rw [hb]; exact d10) hout hRframes (by simp only [List.map_cons, List.sum_cons, hcat]; omega) hlocks
  obtain ⟨f1, f2⟩ := vx_frame hsame
  rw [hhp] at f1 f2
  have hWs : s.WarmedH U.vm := State.WarmedH.trans hW0 hW
  have hcl : s.vm.findClass cls = some ce.cls := by
    have h9 := hO.cls
    rw [hvm] at h9
    exact h9
  have hall : s.sameButNew ({ U with vm := s.vm } : State) locs mc ms := by
    subst hA
    obtain ⟨e1, e2⟩ := hsame
    rw [State.setFrames_setFrames] at e1
    have h2 : (T.setVm s.vm).sameButNew ({ U with vm := s.vm } : State) [] (0 + 1) (0 + 6) := ⟨e1, e2⟩
    have h3 := X.same.trans h2
    rw [List.append_nil] at h3
    exact h3.mono hc hs
  refine ⟨U, ?_, .threw T.heap.size, hrun, hend, Or.inr ⟨T.heap.size, rfl, cls, ce, locs, hx U hWs.alike f1 (fun q hq => f2 q hq (fun z hz => nomatch hz)), hce, hO.vm, hcl, hWs, hall, hf⟩⟩
  refine st1 _ ?_
  show Steps p.tables e below (T1.setTop { method := m, pc := pc + 3, locals := ls, stack := .ref T.heap.size :: rest, locked := none }) _
  jvm_step X₁.here [X₁.here.top, hexec, d3', Value.category]
  exact X₁.ldcStringW hexec (own := own) (text := text) (index := is) (a := sa) hown' hstr'.1 hstr'.2
    (g := { method := m, pc := pc + 4, locals := ls, stack := .ref T.heap.size :: .ref T.heap.size :: rest, locked := none }) rfl d4' _ hsteps
end Ends
section Bodies
variable {l : Launch}
theorem vx_ofW {y : MethodName} {ws ws' : List Cond} {rm : Room} {Pc : Array Value → State → Prop} {Qc : Array Value → State → Outcome → State → Prop} {XC : String → State → State → Prop} {mc ms : Nat} {free : Addr → Prop} {cc : ByteArray} {maxL : Nat} {ret : Option FieldType}
    (hy : plainName y.cls = true) (hw : ws = Cond.code y cc maxL ret :: ws')
    (body : ∀ p e s m args below meth c s₁, BodyLoose p l y (headSpec ws rm) cc maxL ret e s m args below meth c s₁ → c.maxLocals = maxL → (∀ x ∈ c.exceptionTable.toList, False) → Pc args s →
      W p l e (headSpec ws rm).room s m args below meth c s.heap [] 0 0 (vx_MQ below Qc XC args s mc ms free) (entryFrame m args maxL)) : vx_Met l y ws rm Pc Qc XC mc ms free := by
  refine MetFree.of_bodyS (code := cc) (maxLocals := maxL) (ret := ret) hy ?_ ?_
  · intro args s m h hn
    obtain ⟨meth, c, h1, h2, h3, h4, h5, h6, -, -⟩ := Cond.code_spec hn (atoms_spec (ws := ws) h _ (by rw [hw]; exact List.mem_cons_self))
    exact ⟨meth, c, h1, h2, h3, h4, h5, h6⟩
  · intro p e s m args below meth c s₁ B hml hP _
    have hh0 : s₁.heap = s.heap := by rw [B.state]; rfl
    have ht : ∀ x ∈ c.exceptionTable.toList, False := by
      obtain ⟨meth9, c9, h1, h2, -, -, -, -, h7, -⟩ := Cond.code_spec B.named (atoms_spec (ws := ws) B.pre _ (by rw [hw]; exact List.mem_cons_self))
      cases Option.some.inj (h1.symm.trans B.method)
      cases Option.some.inj (h2.symm.trans (Stand.of_body B).code)
      intro x hx
      rw [Array.isEmpty_iff.mp h7] at hx
      cases hx
    obtain ⟨t, a1, o, b1, b2, b3⟩ := body p e s m args below meth c s₁ B hml ht hP s₁ hh0 (Stand.of_body B)
    exact ⟨t, o, a1, b1, b2, b3⟩
/-- the table of a body with handlers -/
theorem vx_table {p : Program} {x y : MethodName} {S : Spec} {cc bytes : ByteArray} {maxL maxL' : Nat} {ret ret' : Option FieldType} {e : Env} {s s₁ : State} {m : MethodId} {args : Array Value} {below : List Frame} {meth : Method} {c : Code} {hh : List (Nat × Nat × Nat × Nat)}
    (B : BodyLoose p l y S cc maxL ret e s m args below meth c s₁) (h : (Cond.codeWith y bytes maxL' ret' hh).before args s = true) : c.exceptionTable.toList = tableOf hh := by
  obtain ⟨m9, meth9, c9, hn9, h1, h2, -, -, h6, -⟩ := Cond.codeWith_spec h
  cases Option.some.inj (hn9.symm.trans B.named)
  cases Option.some.inj (h1.symm.trans B.method)
  cases Option.some.inj (h2.symm.trans (Stand.of_body B).code)
  rw [← h6, table_eq]
end Bodies
end VXA
/-! ===== END ===== -/
/-! ===== BEGIN a static call of a method with an exception table ===== -/
section VXS
variable {p : Program} {l : Launch} {e : Env} {R : Room} {s : State} {m : MethodId} {args : Array Value} {below : List Frame} {meth : Method} {c : Code} {T : State} {H : Heap} {locs : List Loc} {cells slots : Nat}
abbrev vx_CSW (R : Room) (s : State) (args : Array Value) (own : String) (index : Nat) (y : MethodName) (bytes : ByteArray) (maxL : Nat) (ret : Option FieldType) (hh : List (Nat × Nat × Nat × Nat)) (ws : List Cond) (rm : Room) (mc ms n : Nat) : Prop :=
  (rm.cells = mc ∧ rm.slots = ms ∧ rm.frames + 1 ≤ R.frames ∧ 8 + (maxL + 11) + rm.locals ≤ R.locals ∧ (∀ w ∈ ws, ∀ (a' : Array Value) (U : State), s.WarmedH U.vm → w.before a' U = true) ∧ Cond.codeWith y bytes maxL ret hh ∈ ws) ∧
  (Cond.codeWith y bytes maxL ret hh).before args s = true ∧ (Cond.initialized y.cls).before args s = true ∧ (y.cls ≠ "java/lang/invoke/MethodHandle" ∧ y.cls ≠ "java/lang/invoke/VarHandle") ∧
  (∀ sig, parseMethodDescriptor y.desc = some sig → n = sig.parameters.length) ∧ (Cond.methodLink own index y).before args s = true ∧ (Cond.static y).before args s = true
theorem vx_cwSW {own : String} {index maxL mc ms : Nat} {y : MethodName} {bytes : ByteArray} {ret : Option FieldType} {hh : List (Nat × Nat × Nat × Nat)} {Ts ws ws' : List Cond} {rm : Room} (n : Nat) (ht : ∀ w ∈ Ts, w.before args s = true) (hT : GoodIn Ts (va_wsS own index y ws)) (hw : ws = Cond.codeWith y bytes maxL ret hh :: ws') (hrc : rm.cells = mc) (hrs : rm.slots = ms)
    (hd : y.cls ≠ "java/lang/invoke/MethodHandle" ∧ y.cls ≠ "java/lang/invoke/VarHandle" ∧ (parseMethodDescriptor y.desc).map (fun d => d.parameters.length) = some n) (hR : rm.frames + 1 ≤ R.frames ∧ 8 + (maxL + 11) + rm.locals ≤ R.locals) :
    vx_CSW R s args own index y bytes maxL ret hh ws rm mc ms n := by
  have ok : ∀ w ∈ va_wsS own index y ws, w.before args s = true := fun w h => ht w (hT w h).1
  have hG : GoodIn Ts ws := fun w h => hT w (by unfold va_wsS; exact List.mem_append_right _ h)
  have hc : Cond.codeWith y bytes maxL ret hh ∈ ws := by rw [hw]; exact List.mem_cons_self
  refine ⟨⟨hrc, hrs, hR.1, hR.2, pay_in ht hG, hc⟩, ht _ (hG _ hc).1, ok _ (by simp [va_wsS]), ⟨hd.1, hd.2.1⟩, fun sig h => ?_, ok _ (by simp [va_wsS]), ok _ (by simp [va_wsS])⟩
  have h2 := hd.2.2
  rw [h] at h2
  exact (Option.some.inj h2).symm
theorem vx_callSW (X : Stand p l e R s m args below meth c T locs cells slots) (hexec : p.tables.exec = Jvm.exec) {own : String} {index : Nat} {y : MethodName} {bytes : ByteArray} {maxL : Nat} {ret : Option FieldType} {hh : List (Nat × Nat × Nat × Nat)}
    (hown : s.vm.findClass own = some m.cls) (hlink : (Cond.methodLink own index y).before args s = true) (hstat : (Cond.static y).before args s = true) (hinit : (Cond.initialized y.cls).before args s = true)
    (hcode : (Cond.codeWith y bytes maxL ret hh).before args s = true) (hy : y.cls ≠ "java/lang/invoke/MethodHandle" ∧ y.cls ≠ "java/lang/invoke/VarHandle")
    {W9 : Nat} {Pre : Pt → Array Value → Prop} {Post : Pt → Array Value → Option Value → Pt → Prop} (hK : Back l R p e below s args y 3 W9 Pre Post)
    {g : JFrame} (hg : g.method = m) (hsize : g.locals.size = c.maxLocals) {argsL rest : List Value} (hlen : ∀ sig, parseMethodDescriptor y.desc = some sig → argsL.length = sig.parameters.length)
    (hstack : g.stack = argsL.reverse ++ rest) (hW : 2 * g.monitorRoom + (rest.map fun v => v.category).sum ≤ W9) (hdg : decode c.code g.pc = .ok (.invokestatic index, 3))
    (hpre : ∀ vm₁, s.WarmedH vm₁ → Pre ⟨T.setVm vm₁, locs, cells, slots⟩ argsL.toArray) :
    ∃ (v : Option Value) (vm₁ : Vm) (B : Pt), s.WarmedH vm₁ ∧ Stand p l e R s m args below meth c B.U B.locs B.cells B.slots ∧ Post ⟨T.setVm vm₁, locs, cells, slots⟩ argsL.toArray v B ∧
      ∀ target, Steps p.tables e below (B.U.setTop { g with pc := g.pc + 3, stack := v.toList ++ rest }) target → Steps p.tables e below (T.setTop g) target := by
  obtain ⟨mk, methM, cM, hnamed, hmethM, -, -, -, -, -, -, hsigM⟩ := Cond.codeWith_spec hcode
  have hstatic : methM.isStatic = true := Cond.static_spec hnamed hmethM hstat
  obtain ⟨kP, hkP, -⟩ := className_of_methodNamed hnamed
  have hinitP : kP.init = .initialized := Cond.initialized_spec (findClass_of_methodNamed hnamed) hkP hinit
  obtain ⟨vm₁, X₁, hstep₁⟩ := X.invokestatic hexec hown hlink hnamed hmethM hstatic hkP hinitP hy (g := g) hg (argsL := argsL) (rest := rest) (hlen _ hsigM) hstack hdg
  obtain ⟨v, B, X', hpost, hsteps⟩ := hK m meth c ⟨T.setVm vm₁, locs, cells, slots⟩ { g with stack := rest } (.invokestatic index) mk argsL.toArray X₁ hg hsize hdg hW (X₁.named hnamed) (hpre vm₁ X₁.warmed)
  exact ⟨v, vm₁, B, X₁.warmed, X', hpost, fun target h => hstep₁ _ fun acts => by rw [doInvoke_state]; exact hsteps.trans h⟩
theorem vx_runSW {y : MethodName} {bytes cc : ByteArray} {maxL nL mc ms n index : Nat} {ret : Option FieldType} {hh : List (Nat × Nat × Nat × Nat)} {ws : List Cond} {rm : Room} {Pc : Array Value → State → Prop} {Qc : Array Value → State → Outcome → State → Prop} {free : Addr → Prop} {Ts : List Cond} {own : String} {As rest : List Value} {g : JFrame}
    (S : CallFix p m c cc nL s args Ts own) (hM : Met l y ws rm Pc Qc mc ms free) (cw : vx_CSW R s args own index y bytes maxL ret hh ws rm mc ms n) (hp : PreS s H Pc As)
    (hg : g.method = m) (hn : As.length = n) (hsize : g.locals.size = nL) (hstack : g.stack = As.reverse ++ rest) (hW : 2 * g.monitorRoom + (rest.map fun v => v.category).sum ≤ 8) (hdg : decode cc g.pc = .ok (.invokestatic index, 3)) (hf : cells + mc ≤ R.cells ∧ slots + ms ≤ R.slots) :
    va_Run p l e R s m args below meth c H locs cells slots mc ms g rest (Qc As.toArray) (free) := by
  obtain ⟨⟨hrc, hrs, hfr, hlo, hws, hcw⟩, hcode, hini, hy, hlen, hl, hstt⟩ := cw
  have hK : Back l R p e below s args y 3 8 (PreOf R mc ms Pc) (PostOf Qc mc ms free) := va_backW (hh := hh) (bytes := bytes) (maxL := maxL) (ret := ret) hM hp.1 hrc hrs hfr hlo hws hcw (fun a' U hW => word_at hW (Or.inl (by first | rfl | simp [Cond.onTables, Cond.keeps, Cond.steady])) hini)
  obtain ⟨hx, hb, hml, ho, -⟩ := S
  intro T hT X
  obtain ⟨v, vm₁, ⟨U', l2, c2, s2⟩, hW₁, X', ⟨g', mk, t, L, e1, e2, hq, h1, hL, h2, h3⟩, st⟩ := vx_callSW X hx (hh := hh) (bytes := bytes) (maxL := maxL) (ret := ret) ho hl hstt hini hcode hy hK hg (hsize.trans hml.symm) (argsL := As) (rest := rest) (fun sig h => hn.trans (hlen sig h)) hstack hW (by rw [hb]; exact hdg)
    (fun vm₁ hW₁ => ⟨hf.1, hf.2, hp.2 (T.setVm vm₁) hT hW₁⟩)
  dsimp only [Pt.U, Pt.locs, Pt.cells, Pt.slots] at X' e1 e2 h1 h2 h3 st
  subst h1; subst h2; subst h3
  exact ⟨v, (T.setVm vm₁).calling g' mk As.toArray, t, U', L, hT, X', hL, e1, e2, hq, st⟩
/-- not caught here, past rows that name other classes: it goes on to the caller -/
theorem vx_outP {p : Program} {l : Launch} {e : Env} {R : Room} {s : State} {m : MethodId} {args : Array Value} {below : List Frame} {meth : Method} {c : Code} {H : Heap} {locs : List Loc} {cells slots : Nat} {free : Addr → Prop} {ls : Array Slot} {rest : List Value} {Qc : Array Value → State → Outcome → State → Prop} {XC : String → State → State → Prop}
    {pc : Nat} {own E : String} {ce : Cell} {q : Addr} {mc ms : Nat} (hown : s.vm.findClass own = some m.cls) (hlocks : meth.locks = false)
    (hpass : ∀ z ∈ c.exceptionTable.toList, covers z pc = false ∨ (z.catchType ≠ 0 ∧ ∃ nm : String, (Cond.classLink own z.catchType nm).before args s = true ∧ va_Nc E nm s)) (hcell : H[q]? = some ce) (hv : ce.vm = .none) (hcl : s.vm.findClass E = some ce.cls)
    (hx : ∀ t : State, t.heap = H → s.vm.Alike t.vm → XC E s t) (hf : ∀ z ∈ locs, free z.base) (hc : cells ≤ mc) (hs : slots ≤ ms) :
    vx_W p l e R s m args below meth c H locs cells slots (vx_MQ below Qc XC args s mc ms free) (F0 m pc ls rest) q := by
  intro T hT X
  have hpl : e.platform.magicAccessors = ({} : Platform).magicAccessors := by rw [X.admits.platform]
  obtain ⟨vm', hW', X', st⟩ := X.outThrough hlocks q (g := F0 m pc ls rest) rfl rfl rfl (cell := ce) (by rw [hT]; exact hcell) (by rw [hv]; rfl)
    (by obtain ⟨k9, h9, -⟩ := Vm.findClass_spec hcl; exact ⟨k9, h9⟩) (fun z hz => by
      rcases hpass z hz with h | ⟨hz0, nm, hl1, hn1⟩
      · exact Or.inl h
      · obtain ⟨c6, hc6, hcl6⟩ := Cond.classLink_spec hown hl1 e.platform hpl
        obtain ⟨a8, b8, h1, h2, h3⟩ := hn1
        cases Option.some.inj (h1.symm.trans hcl)
        cases Option.some.inj (h2.symm.trans hc6)
        exact Or.inr ⟨hz0, _, hcl6, h3⟩)
  obtain ⟨g₀, hfr⟩ := X'.frames_eq
  have hcell9 : ((T.setVm vm').setFrames (.throwing q :: below)).heap[q]? = some ce := by
    show T.heap[q]? = some ce
    rw [hT]; exact hcell
  have hend : Ended ((T.setVm vm').setFrames (.throwing q :: below)) below (.threw q) := State.frames_setFrames _ (State.cur_lt_of_frames hfr)
  refine ⟨(T.setVm vm').setFrames (.throwing q :: below), ?_, .threw q, X'.here.running, hend, Or.inr ⟨q, rfl, E, ce, locs, hx _ hT (X'.ends _).1.alike, hcell9, hv, hcl, (X'.ends _).1, (X'.ends _).2.mono hc hs, hf⟩⟩
  rw [X.pushThrowing_eq]
  exact st
/-- a thing of a world lies in the heap -/
theorem vx_lt {D : va_G} {cl : List vw_C} {ws : va_W} {H1 : Heap} (h : va_P D cl ws H1) {k : Nat} {q : Nat × va_E} (hk : ws[k]? = some q) : q.1 < H1.size := (h k q hk).lt
end VXS
/-! ===== END ===== -/
/-! ===== BEGIN methods with a table of their own: called by a name, returning or throwing ===== -/
section VXH
/-! vx_backW, vx_callVX, vx_callSX, vx_callVW, vx_runVW, vx_runVX, vx_runSX, vx_ofWH follow the same proofs as their sisters above (Free/Laws.lean, Shelf42/LK1.lean); vx_outP calls Shelf42/NT130.lean (outThrough). -/
section
variable {l : Launch} {R : Room} {p : Program} {e : Env} {below : List Frame} {s : State} {sargs : Array Value} {y : MethodName} {len W9 : Nat}
theorem vx_backW {ws : List Cond} {rm : Room} {Pc : Array Value → State → Prop} {Qc : Array Value → State → Outcome → State → Prop} {XC : String → State → State → Prop} {mc ms : Nat} {free : Addr → Prop} {bytes : ByteArray} {maxL : Nat} {ret : Option FieldType} {hh : List (Nat × Nat × Nat × Nat)}
    (hM : vx_Met l y ws rm Pc Qc XC mc ms free) (hblind : FrameBlind Pc) (hrc : rm.cells = mc) (hrs : rm.slots = ms)
    (hframes : rm.frames + 1 ≤ R.frames) (hlocals : W9 + (maxL + 11) + rm.locals ≤ R.locals)
    (hws : ∀ w ∈ ws, ∀ a' U, s.WarmedH U.vm → w.before a' U = true) (hcode : Cond.codeWith y bytes maxL ret hh ∈ ws) (hinit : ∀ a' U, s.WarmedH U.vm → (Cond.initialized y.cls).before a' U = true) :
    vx_Back l R p e below s sargs y len W9 (PreOf R mc ms Pc) (PostOf Qc mc ms free) (vx_Post XC mc ms free) := by
  intro m meth c A g ig mk a X hg hsize hdg hW hn hp
  have h1 : (headSpec ws rm).pre.before a A.U = true := atoms_intro fun w hw => hws w hw _ _ X.warmed
  have h2 : (Cond.codeWith y bytes maxL ret hh).before a A.U = true := hws _ hcode _ _ X.warmed
  have h3 : (Cond.initialized y.cls).before a A.U = true := hinit _ _ X.warmed
  have h4 : A.cells + (headSpec ws rm).room.cells ≤ R.cells := by rw [show (headSpec ws rm).room.cells = mc from hrc]; exact hp.1
  have h5 : A.slots + (headSpec ws rm).room.slots ≤ R.slots := by rw [show (headSpec ws rm).room.slots = ms from hrs]; exact hp.2.1
  have hPc : Pc a (A.U.calling g mk a) := hblind _ _ _ _ hp.2.2
  obtain ⟨U, Ls, c0, s0⟩ := A
  dsimp only [Pt.U, Pt.locs, Pt.cells, Pt.slots] at h1 h2 h3 h4 h5 X hn hPc ⊢
  obtain ⟨m9, methY, cY, hn9, hmY, hcY, -, hlY, -⟩ := Cond.codeWith_spec h2
  cases Option.some.inj (hn9.symm.trans hn)
  obtain ⟨kY, hkY, -⟩ := className_of_methodNamed hn
  have hinitY : kY.init = .initialized := Cond.initialized_spec (findClass_of_methodNamed hn) hkY h3
  have h : At U g.method c below := by rw [hg]; exact X.here
  have hlocals9 : W9 + (maxL + 11) + (headSpec ws rm).room.locals ≤ R.locals := hlocals
  have happ : (headSpec ws rm).appliesLoose y e.platform (U.calling g mk a) = true :=
    Spec.appliesLoose_calling (g := g) h hdg hn hkY hinitY
      (X.room_calling (g := g) (R' := (headSpec ws rm).room) hsize hmY hcY hframes (by rw [hlY]; omega) h4 h5) h1
  obtain ⟨mid, hmid⟩ := h.above
  have hfr : (U.setTop g).frames = (.java g :: mid) ++ below := by rw [State.frames_setTop' g h.top, hmid]; rfl
  obtain ⟨o, s₂, hsteps, -, hend, hq⟩ := Steps.callFree hM p X.admits X.cas X.clock (acts := []) hfr happ hPc trivial
  have hq' : vx_Q Qc XC mc ms free a (U.calling g mk a) o s₂ := hq
  rw [State.frames_setTop' g h.top] at hend
  obtain ⟨g₀, hg0⟩ := Option.isSome_iff_exists.mp h.top
  obtain ⟨r, hr⟩ := State.topJava?_eq_some.mp hg0
  have hr' : (({ U with heap := s₂.heap, slotsUsed := s₂.slotsUsed } : State).setVm s₂.vm).frames = .java g₀ :: r := hr
  rcases hq' with ⟨hqc, L, hfe, hL⟩ | ⟨q, rfl, E, ce, L, hx, hce, hcv, hcl, hW₂, hsm, hL⟩
  · obtain ⟨⟨v, rfl⟩, hW₂, e2, q2, q3, q4, q5, q6⟩ := id hfe
    have e3 : s₂ = ({ (U.calling g mk a).setFrames s₂.frames with heap := s₂.heap, slotsUsed := s₂.slotsUsed } : State).setVm s₂.vm := by
      have : s₂ = ({ s₂ with vm := (U.calling g mk a).vm } : State).setVm s₂.vm := rfl
      rw [e2] at this
      exact this
    obtain ⟨c₂, i₂, len₂, hc₂, hd₂, hf₂⟩ := hend
    have hW' : U.WarmedH s₂.vm := hW₂
    have hcc : c₂ = c := by
      have h1 : s₂.code? g.method = U.code? g.method := by
        rw [State.code?_eq, State.code?_eq, hW'.alike.method?]
      exact Option.some.inj (hc₂.symm.trans (h1.trans h.code))
    subst hcc
    have hlen : len₂ = len := by rw [hdg] at hd₂; cases hd₂; rfl
    subst hlen
    have hs₂ : s₂ = (({ U with heap := s₂.heap, slotsUsed := s₂.slotsUsed } : State).setVm s₂.vm).setTop { g with pc := g.pc + len₂, stack := v.toList ++ g.stack } := by
      refine e3.trans ?_
      rw [hf₂, State.calling_eq h.top, State.setFrames_setFrames, State.setTop_of_frames _ hr', hr]
      rfl
    have hsame : U.sameButNew ({ U with heap := s₂.heap, slotsUsed := s₂.slotsUsed } : State) L mc ms := by
      refine ⟨?_, q2, q3, q4, q5, q6⟩
      obtain ⟨t, ht, -⟩ := State.frames_cons hr
      show ({ U with heap := s₂.heap, slotsUsed := s₂.slotsUsed } : State) = { U.setFrames U.frames with heap := s₂.heap, slotsUsed := s₂.slotsUsed }
      rw [State.setFrames_self ht]
    subst hg
    refine Or.inl ⟨v, ⟨(({ U with heap := s₂.heap, slotsUsed := s₂.slotsUsed } : State).setVm s₂.vm), Ls ++ L, c0 + mc, s0 + ms⟩,
      ⟨X.admits, X.cas, X.clock, X.frames, X.room, X.hears, X.method, X.code, (X.here.setHeapUsed s₂.heap s₂.slotsUsed).setVm hW'.alike, X.tail, State.WarmedH.trans X.warmed hW', X.limits, X.bytes, X.same.trans (hsame.setVm s.vm)⟩,
      ⟨g, mk, s₂, L, rfl, rfl, hqc, rfl, hL, rfl, rfl⟩, ?_⟩
    show Steps p.tables e below _ ((({ U with heap := s₂.heap, slotsUsed := s₂.slotsUsed } : State).setVm s₂.vm).setTop { g with pc := g.pc + len₂, stack := v.toList ++ g.stack })
    rw [← hs₂]
    exact hsteps
  · obtain ⟨e2, q2, q3, q4, q5, q6⟩ := id hsm
    have e3 : s₂ = ({ (U.calling g mk a).setFrames s₂.frames with heap := s₂.heap, slotsUsed := s₂.slotsUsed } : State).setVm s₂.vm := by
      have : s₂ = ({ s₂ with vm := (U.calling g mk a).vm } : State).setVm s₂.vm := rfl
      rw [e2] at this
      exact this
    have hf₂ : s₂.frames = .throwing q :: .java g :: U.frames.tail := hend
    have hW' : U.WarmedH s₂.vm := hW₂
    have hs₂ : s₂ = ((({ U with heap := s₂.heap, slotsUsed := s₂.slotsUsed } : State).setVm s₂.vm).setTop g).pushFrame (.throwing q) := by
      refine e3.trans ?_
      rw [hf₂, State.calling_eq h.top, State.setFrames_setFrames, State.pushFrame, State.frames_setTop _ hr', State.setTop_of_frames _ hr', State.setFrames_setFrames, hr]
      rfl
    have hsame : U.sameButNew ({ U with heap := s₂.heap, slotsUsed := s₂.slotsUsed } : State) L mc ms := by
      refine ⟨?_, q2, q3, q4, q5, q6⟩
      obtain ⟨t, ht, -⟩ := State.frames_cons hr
      show ({ U with heap := s₂.heap, slotsUsed := s₂.slotsUsed } : State) = { U.setFrames U.frames with heap := s₂.heap, slotsUsed := s₂.slotsUsed }
      rw [State.setFrames_self ht]
    subst hg
    refine Or.inr ⟨q, ⟨(({ U with heap := s₂.heap, slotsUsed := s₂.slotsUsed } : State).setVm s₂.vm), Ls ++ L, c0 + mc, s0 + ms⟩,
      ⟨X.admits, X.cas, X.clock, X.frames, X.room, X.hears, X.method, X.code, (X.here.setHeapUsed s₂.heap s₂.slotsUsed).setVm hW'.alike, X.tail, State.WarmedH.trans X.warmed hW', X.limits, X.bytes, X.same.trans (hsame.setVm s.vm)⟩,
      ⟨g, mk, s₂, L, E, ce, rfl, rfl, hx, hce, hcv, hcl, rfl, hL, rfl, rfl⟩, ?_⟩
    show Steps p.tables e below _ (((({ U with heap := s₂.heap, slotsUsed := s₂.slotsUsed } : State).setVm s₂.vm).setTop g).pushFrame (.throwing q))
    rw [← hs₂]
    exact hsteps
end
variable {p : Program} {l : Launch} {e : Env} {R : Room} {s : State} {m : MethodId} {args : Array Value} {below : List Frame} {meth : Method} {c : Code} {T : State} {H : Heap} {locs : List Loc} {cells slots : Nat}
theorem vx_callVX (X : Stand p l e R s m args below meth c T locs cells slots) (hexec : p.tables.exec = Jvm.exec) {own C : String} {index : Nat} {y : MethodName} {bytes : ByteArray} {maxL : Nat} {ret : Option FieldType} {hh : List (Nat × Nat × Nat × Nat)}
    (hown : s.vm.findClass own = some m.cls) (hlink : (Cond.methodLink own index y).before args s = true) (hinst : (Cond.instanceMethod y).before args s = true) (hsel : (Cond.selects C y y).before args s = true)
    (hcode : (Cond.codeWith y bytes maxL ret hh).before args s = true) (hy : y.cls ≠ "java/lang/invoke/MethodHandle" ∧ y.cls ≠ "java/lang/invoke/VarHandle")
    {W9 : Nat} {Pre : Pt → Array Value → Prop} {Post : Pt → Array Value → Option Value → Pt → Prop} {PostX : Pt → Array Value → Addr → Pt → Prop} (hK : vx_Back l R p e below s args y 3 W9 Pre Post PostX)
    {b : Addr} {cellB : Cell} (hcell : T.heap[b]? = some cellB) (hobj : cellB.vm.isStatics = false) (hcls : s.vm.findClass C = some cellB.cls)
    {g : JFrame} (hg : g.method = m) (hsize : g.locals.size = c.maxLocals) {argsL rest : List Value} (hlen : ∀ sig, parseMethodDescriptor y.desc = some sig → argsL.length = sig.parameters.length)
    (hstack : g.stack = argsL.reverse ++ .ref b :: rest) (hW : 2 * g.monitorRoom + (rest.map fun v => v.category).sum ≤ W9) (hdg : decode c.code g.pc = .ok (.invokevirtual index, 3))
    (hpre : ∀ vm₁, s.WarmedH vm₁ → Pre ⟨T.setVm vm₁, locs, cells, slots⟩ (Value.ref b :: argsL).toArray) :
    (∃ (v : Option Value) (vm₁ : Vm) (B : Pt), s.WarmedH vm₁ ∧ Stand p l e R s m args below meth c B.U B.locs B.cells B.slots ∧ Post ⟨T.setVm vm₁, locs, cells, slots⟩ (Value.ref b :: argsL).toArray v B ∧
      ∀ target, Steps p.tables e below (B.U.setTop { g with pc := g.pc + 3, stack := v.toList ++ rest }) target → Steps p.tables e below (T.setTop g) target) ∨
    (∃ (q : Addr) (vm₁ : Vm) (B : Pt), s.WarmedH vm₁ ∧ Stand p l e R s m args below meth c B.U B.locs B.cells B.slots ∧ PostX ⟨T.setVm vm₁, locs, cells, slots⟩ (Value.ref b :: argsL).toArray q B ∧
      Steps p.tables e below (T.setTop g) ((B.U.setTop { g with stack := rest }).pushFrame (.throwing q))) := by
  obtain ⟨mk, methM, hnamed, hmethM, hstM, habM⟩ := Cond.instanceMethod_spec hinst
  obtain ⟨m8, methM', cM, hn8, hmethM', -, -, -, -, -, -, hsigM⟩ := Cond.codeWith_spec hcode
  cases Option.some.inj (hn8.symm.trans hnamed)
  cases hmethM.symm.trans hmethM'
  obtain ⟨c2, r2, m2, q1, q2, q3, q4, kP, hkP, hkPi⟩ := Cond.selects_spec hsel
  cases hcls.symm.trans q1
  cases (State.methodFound?_of_named hnamed hy).symm.trans q2
  cases hnamed.symm.trans q3
  have hselP : selectMethod e.platform s.vm cellB.cls mk = .method mk := by rw [Launch.admits_selectMethod X.admits]; exact q4
  obtain ⟨vm₁, X₁, hstep₁⟩ := X.invokevirtual hexec hown hlink hnamed hmethM hstM hkP hkPi hy (a := b) (cell := cellB) hcell
    (fun z h => by rw [h] at hobj; cases hobj) hselP hmethM habM hkP hkPi (g := g) hg (argsL := argsL) (rest := rest) (hlen _ hsigM) hstack hdg
  rcases hK m meth c ⟨T.setVm vm₁, locs, cells, slots⟩ { g with stack := rest } (.invokevirtual index) mk (Value.ref b :: argsL).toArray X₁ hg hsize hdg hW (X₁.named hnamed) (hpre vm₁ X₁.warmed) with ⟨v, B, X', hpost, hsteps⟩ | ⟨q, B, X', hpost, hsteps⟩
  · exact Or.inl ⟨v, vm₁, B, X₁.warmed, X', hpost, fun target h => hstep₁ _ fun acts => by rw [doInvoke_state]; exact hsteps.trans h⟩
  · exact Or.inr ⟨q, vm₁, B, X₁.warmed, X', hpost, hstep₁ _ fun acts => by rw [doInvoke_state]; exact hsteps⟩
theorem vx_callSX (X : Stand p l e R s m args below meth c T locs cells slots) (hexec : p.tables.exec = Jvm.exec) {own : String} {index : Nat} {y : MethodName} {bytes : ByteArray} {maxL : Nat} {ret : Option FieldType} {hh : List (Nat × Nat × Nat × Nat)}
    (hown : s.vm.findClass own = some m.cls) (hlink : (Cond.methodLink own index y).before args s = true) (hstat : (Cond.static y).before args s = true) (hinit : (Cond.initialized y.cls).before args s = true)
    (hcode : (Cond.codeWith y bytes maxL ret hh).before args s = true) (hy : y.cls ≠ "java/lang/invoke/MethodHandle" ∧ y.cls ≠ "java/lang/invoke/VarHandle")
    {W9 : Nat} {Pre : Pt → Array Value → Prop} {Post : Pt → Array Value → Option Value → Pt → Prop} {PostX : Pt → Array Value → Addr → Pt → Prop} (hK : vx_Back l R p e below s args y 3 W9 Pre Post PostX)
    {g : JFrame} (hg : g.method = m) (hsize : g.locals.size = c.maxLocals) {argsL rest : List Value} (hlen : ∀ sig, parseMethodDescriptor y.desc = some sig → argsL.length = sig.parameters.length)
    (hstack : g.stack = argsL.reverse ++ rest) (hW : 2 * g.monitorRoom + (rest.map fun v => v.category).sum ≤ W9) (hdg : decode c.code g.pc = .ok (.invokestatic index, 3))
    (hpre : ∀ vm₁, s.WarmedH vm₁ → Pre ⟨T.setVm vm₁, locs, cells, slots⟩ argsL.toArray) :
    (∃ (v : Option Value) (vm₁ : Vm) (B : Pt), s.WarmedH vm₁ ∧ Stand p l e R s m args below meth c B.U B.locs B.cells B.slots ∧ Post ⟨T.setVm vm₁, locs, cells, slots⟩ argsL.toArray v B ∧
      ∀ target, Steps p.tables e below (B.U.setTop { g with pc := g.pc + 3, stack := v.toList ++ rest }) target → Steps p.tables e below (T.setTop g) target) ∨
    (∃ (q : Addr) (vm₁ : Vm) (B : Pt), s.WarmedH vm₁ ∧ Stand p l e R s m args below meth c B.U B.locs B.cells B.slots ∧ PostX ⟨T.setVm vm₁, locs, cells, slots⟩ argsL.toArray q B ∧
      Steps p.tables e below (T.setTop g) ((B.U.setTop { g with stack := rest }).pushFrame (.throwing q))) := by
  obtain ⟨mk, methM, cM, hnamed, hmethM, -, -, -, -, -, -, hsigM⟩ := Cond.codeWith_spec hcode
  have hstatic : methM.isStatic = true := Cond.static_spec hnamed hmethM hstat
  obtain ⟨kP, hkP, -⟩ := className_of_methodNamed hnamed
  have hinitP : kP.init = .initialized := Cond.initialized_spec (findClass_of_methodNamed hnamed) hkP hinit
  obtain ⟨vm₁, X₁, hstep₁⟩ := X.invokestatic hexec hown hlink hnamed hmethM hstatic hkP hinitP hy (g := g) hg (argsL := argsL) (rest := rest) (hlen _ hsigM) hstack hdg
  rcases hK m meth c ⟨T.setVm vm₁, locs, cells, slots⟩ { g with stack := rest } (.invokestatic index) mk argsL.toArray X₁ hg hsize hdg hW (X₁.named hnamed) (hpre vm₁ X₁.warmed) with ⟨v, B, X', hpost, hsteps⟩ | ⟨q, B, X', hpost, hsteps⟩
  · exact Or.inl ⟨v, vm₁, B, X₁.warmed, X', hpost, fun target h => hstep₁ _ fun acts => by rw [doInvoke_state]; exact hsteps.trans h⟩
  · exact Or.inr ⟨q, vm₁, B, X₁.warmed, X', hpost, hstep₁ _ fun acts => by rw [doInvoke_state]; exact hsteps⟩
theorem vx_callVW (X : Stand p l e R s m args below meth c T locs cells slots) (hexec : p.tables.exec = Jvm.exec) {own C : String} {index : Nat} {y : MethodName} {bytes : ByteArray} {maxL : Nat} {ret : Option FieldType} {hh : List (Nat × Nat × Nat × Nat)}
    (hown : s.vm.findClass own = some m.cls) (hlink : (Cond.methodLink own index y).before args s = true) (hinst : (Cond.instanceMethod y).before args s = true) (hsel : (Cond.selects C y y).before args s = true)
    (hcode : (Cond.codeWith y bytes maxL ret hh).before args s = true) (hy : y.cls ≠ "java/lang/invoke/MethodHandle" ∧ y.cls ≠ "java/lang/invoke/VarHandle")
    {W9 : Nat} {Pre : Pt → Array Value → Prop} {Post : Pt → Array Value → Option Value → Pt → Prop} (hK : Back l R p e below s args y 3 W9 Pre Post)
    {b : Addr} {cellB : Cell} (hcell : T.heap[b]? = some cellB) (hobj : cellB.vm.isStatics = false) (hcls : s.vm.findClass C = some cellB.cls)
    {g : JFrame} (hg : g.method = m) (hsize : g.locals.size = c.maxLocals) {argsL rest : List Value} (hlen : ∀ sig, parseMethodDescriptor y.desc = some sig → argsL.length = sig.parameters.length)
    (hstack : g.stack = argsL.reverse ++ .ref b :: rest) (hW : 2 * g.monitorRoom + (rest.map fun v => v.category).sum ≤ W9) (hdg : decode c.code g.pc = .ok (.invokevirtual index, 3))
    (hpre : ∀ vm₁, s.WarmedH vm₁ → Pre ⟨T.setVm vm₁, locs, cells, slots⟩ (Value.ref b :: argsL).toArray) :
    ∃ (v : Option Value) (vm₁ : Vm) (B : Pt), s.WarmedH vm₁ ∧ Stand p l e R s m args below meth c B.U B.locs B.cells B.slots ∧ Post ⟨T.setVm vm₁, locs, cells, slots⟩ (Value.ref b :: argsL).toArray v B ∧
      ∀ target, Steps p.tables e below (B.U.setTop { g with pc := g.pc + 3, stack := v.toList ++ rest }) target → Steps p.tables e below (T.setTop g) target := by
  obtain ⟨mk, methM, hnamed, hmethM, hstM, habM⟩ := Cond.instanceMethod_spec hinst
  obtain ⟨m8, methM', cM, hn8, hmethM', -, -, -, -, -, -, hsigM⟩ := Cond.codeWith_spec hcode
  cases Option.some.inj (hn8.symm.trans hnamed)
  cases hmethM.symm.trans hmethM'
  obtain ⟨c2, r2, m2, q1, q2, q3, q4, kP, hkP, hkPi⟩ := Cond.selects_spec hsel
  cases hcls.symm.trans q1
  cases (State.methodFound?_of_named hnamed hy).symm.trans q2
  cases hnamed.symm.trans q3
  have hselP : selectMethod e.platform s.vm cellB.cls mk = .method mk := by rw [Launch.admits_selectMethod X.admits]; exact q4
  obtain ⟨vm₁, X₁, hstep₁⟩ := X.invokevirtual hexec hown hlink hnamed hmethM hstM hkP hkPi hy (a := b) (cell := cellB) hcell
    (fun z h => by rw [h] at hobj; cases hobj) hselP hmethM habM hkP hkPi (g := g) hg (argsL := argsL) (rest := rest) (hlen _ hsigM) hstack hdg
  obtain ⟨v, B, X', hpost, hsteps⟩ := hK m meth c ⟨T.setVm vm₁, locs, cells, slots⟩ { g with stack := rest } (.invokevirtual index) mk (Value.ref b :: argsL).toArray X₁ hg hsize hdg hW (X₁.named hnamed) (hpre vm₁ X₁.warmed)
  exact ⟨v, vm₁, B, X₁.warmed, X', hpost, fun target h => hstep₁ _ fun acts => by rw [doInvoke_state]; exact hsteps.trans h⟩
abbrev vx_CVW (R : Room) (s : State) (args : Array Value) (own C : String) (index : Nat) (y : MethodName) (bytes : ByteArray) (maxL : Nat) (ret : Option FieldType) (hh : List (Nat × Nat × Nat × Nat)) (ws : List Cond) (rm : Room) (mc ms n : Nat) : Prop :=
  (rm.cells = mc ∧ rm.slots = ms ∧ rm.frames + 1 ≤ R.frames ∧ 8 + (maxL + 11) + rm.locals ≤ R.locals ∧ (∀ w ∈ ws, ∀ (a' : Array Value) (U : State), s.WarmedH U.vm → w.before a' U = true) ∧ Cond.codeWith y bytes maxL ret hh ∈ ws) ∧
  (Cond.codeWith y bytes maxL ret hh).before args s = true ∧ (Cond.initialized y.cls).before args s = true ∧ (y.cls ≠ "java/lang/invoke/MethodHandle" ∧ y.cls ≠ "java/lang/invoke/VarHandle") ∧
  (∀ sig, parseMethodDescriptor y.desc = some sig → n = sig.parameters.length) ∧ (Cond.methodLink own index y).before args s = true ∧ (Cond.instanceMethod y).before args s = true ∧ (Cond.selects C y y).before args s = true
theorem vx_cwVW {own C : String} {index maxL mc ms : Nat} {y : MethodName} {bytes : ByteArray} {ret : Option FieldType} {hh : List (Nat × Nat × Nat × Nat)} {Ts ws ws' : List Cond} {rm : Room} (n : Nat) (ht : ∀ w ∈ Ts, w.before args s = true) (hT : GoodIn Ts (wsV own index C y ws)) (hw : ws = Cond.codeWith y bytes maxL ret hh :: ws') (hrc : rm.cells = mc) (hrs : rm.slots = ms)
    (hd : y.cls = C ∧ y.cls ≠ "java/lang/invoke/MethodHandle" ∧ y.cls ≠ "java/lang/invoke/VarHandle" ∧ (parseMethodDescriptor y.desc).map (fun d => d.parameters.length) = some n) (hR : rm.frames + 1 ≤ R.frames ∧ 8 + (maxL + 11) + rm.locals ≤ R.locals) :
    vx_CVW R s args own C index y bytes maxL ret hh ws rm mc ms n := by
  obtain ⟨hC, hd⟩ := hd
  subst hC
  have ok : ∀ w ∈ wsV own index y.cls y ws, w.before args s = true := fun w h => ht w (hT w h).1
  have hG : GoodIn Ts ws := fun w h => hT w (by unfold wsV; exact List.mem_append_right _ h)
  have hc : Cond.codeWith y bytes maxL ret hh ∈ ws := by rw [hw]; exact List.mem_cons_self
  refine ⟨⟨hrc, hrs, hR.1, hR.2, pay_in ht hG, hc⟩, ht _ (hG _ hc).1, ok _ (by simp [wsV]), ⟨hd.1, hd.2.1⟩, fun sig h => ?_, ok _ (by simp [wsV]), ok _ (by simp [wsV]), ok _ (by simp [wsV])⟩
  have h2 := hd.2.2
  rw [h] at h2
  exact (Option.some.inj h2).symm
theorem vx_runVW {y : MethodName} {bytes cc : ByteArray} {maxL nL mc ms n index : Nat} {ret : Option FieldType} {hh : List (Nat × Nat × Nat × Nat)} {ws : List Cond} {rm : Room} {Pc : Array Value → State → Prop} {Qc : Array Value → State → Outcome → State → Prop} {free : Addr → Prop} {Ts : List Cond} {own C : String} {b : Addr} {As rest : List Value} {g : JFrame}
    (S : CallFix p m c cc nL s args Ts own) (hM : Met l y ws rm Pc Qc mc ms free) (cw : vx_CVW R s args own C index y bytes maxL ret hh ws rm mc ms n) (hp : PreV s H C b Pc As)
    (hg : g.method = m) (hn : As.length = n) (hsize : g.locals.size = nL) (hstack : g.stack = As.reverse ++ .ref b :: rest) (hW : 2 * g.monitorRoom + (rest.map fun v => v.category).sum ≤ 8) (hdg : decode cc g.pc = .ok (.invokevirtual index, 3)) (hf : cells + mc ≤ R.cells ∧ slots + ms ≤ R.slots) :
    va_Run p l e R s m args below meth c H locs cells slots mc ms g rest (Qc (Value.ref b :: As).toArray) free := by
  obtain ⟨⟨hrc, hrs, hfr, hlo, hws, hcw⟩, hcode, hini, hy, hlen, hl, hin, hse⟩ := cw
  have hK : Back l R p e below s args y 3 8 (PreOf R mc ms Pc) (PostOf Qc mc ms free) := va_backW (hh := hh) (bytes := bytes) (maxL := maxL) (ret := ret) hM hp.1 hrc hrs hfr hlo hws hcw (fun a' U hW => word_at hW (Or.inl (by first | rfl | simp [Cond.onTables, Cond.keeps, Cond.steady])) hini)
  obtain ⟨hx, hb, hml, ho, -⟩ := S
  obtain ⟨-, ⟨cellB, hcB, hoB, hclB⟩, hPc⟩ := hp
  intro T hT X
  obtain ⟨v, vm₁, ⟨U', l2, c2, s2⟩, hW₁, X', ⟨g', mk, t, L, e1, e2, hq, h1, hL, h2, h3⟩, st⟩ := vx_callVW X hx (C := C) (hh := hh) (bytes := bytes) (maxL := maxL) (ret := ret) ho hl hin hse hcode hy hK (by rw [hT]; exact hcB) hoB hclB hg (hsize.trans hml.symm) (argsL := As) (rest := rest) (fun sig h => hn.trans (hlen sig h)) hstack hW (by rw [hb]; exact hdg)
    (fun vm₁ hW₁ => ⟨hf.1, hf.2, hPc (T.setVm vm₁) hT hW₁⟩)
  dsimp only [Pt.U, Pt.locs, Pt.cells, Pt.slots] at X' e1 e2 h1 h2 h3 st
  subst h1; subst h2; subst h3
  exact ⟨v, (T.setVm vm₁).calling g' mk (Value.ref b :: As).toArray, t, U', L, hT, X', hL, e1, e2, hq, st⟩
section
variable {y : MethodName} {bytes cc : ByteArray} {maxL nL mc ms n index : Nat} {ret : Option FieldType} {ws : List Cond} {rm : Room} {Pc : Array Value → State → Prop} {Qc : Array Value → State → Outcome → State → Prop} {XC : String → State → State → Prop} {free : Addr → Prop} {Ts : List Cond} {own C : String} {b : Addr} {As rest : List Value} {g : JFrame}
theorem vx_runVX {hh : List (Nat × Nat × Nat × Nat)} (S : CallFix p m c cc nL s args Ts own) (hM : vx_Met l y ws rm Pc Qc XC mc ms free) (cw : vx_CVW R s args own C index y bytes maxL ret hh ws rm mc ms n) (hp : PreV s H C b Pc As)
    (hg : g.method = m) (hn : As.length = n) (hsize : g.locals.size = nL) (hstack : g.stack = As.reverse ++ .ref b :: rest) (hW : 2 * g.monitorRoom + (rest.map fun v => v.category).sum ≤ 8) (hdg : decode cc g.pc = .ok (.invokevirtual index, 3)) (hf : cells + mc ≤ R.cells ∧ slots + ms ≤ R.slots) :
    vx_Run p l e R s m args below meth c H locs cells slots mc ms g rest (Qc (Value.ref b :: As).toArray) XC free := by
  obtain ⟨⟨hrc, hrs, hfr, hlo, hws, hcw⟩, hcode, hini, hy, hlen, hl, hin, hse⟩ := cw
  have hK : vx_Back l R p e below s args y 3 8 (PreOf R mc ms Pc) (PostOf Qc mc ms free) (vx_Post XC mc ms free) := vx_backW (hh := hh) (bytes := bytes) (maxL := maxL) (ret := ret) hM hp.1 hrc hrs hfr hlo hws hcw (fun a' U hW => word_at hW (Or.inl (by first | rfl | simp [Cond.onTables, Cond.keeps, Cond.steady])) hini)
  obtain ⟨hx, hb, hml, ho, -⟩ := S
  obtain ⟨-, ⟨cellB, hcB, hoB, hclB⟩, hPc⟩ := hp
  intro T hT X
  rcases vx_callVX X hx (C := C) (hh := hh) (bytes := bytes) (maxL := maxL) (ret := ret) ho hl hin hse hcode hy hK (by rw [hT]; exact hcB) hoB hclB hg (hsize.trans hml.symm) (argsL := As) (rest := rest) (fun sig h => hn.trans (hlen sig h)) hstack hW (by rw [hb]; exact hdg)
    (fun vm₁ hW₁ => ⟨hf.1, hf.2, hPc (T.setVm vm₁) hT hW₁⟩) with ⟨v, vm₁, ⟨U', l2, c2, s2⟩, hW₁, X', ⟨g', mk, t, L, e1, e2, hq, h1, hL, h2, h3⟩, st⟩ | ⟨q, vm₁, ⟨U', l2, c2, s2⟩, hW₁, X', ⟨g', mk, t, L, E, ce, e1, e2, hq, hce, hcv, hcl, h1, hL, h2, h3⟩, st⟩
  · dsimp only [Pt.U, Pt.locs, Pt.cells, Pt.slots] at X' e1 e2 h1 h2 h3 st
    subst h1; subst h2; subst h3
    exact Or.inl ⟨v, (T.setVm vm₁).calling g' mk (Value.ref b :: As).toArray, t, U', L, hT, X', hL, e1, e2, hq, st⟩
  · dsimp only [Pt.U, Pt.locs, Pt.cells, Pt.slots] at X' e1 e2 h1 h2 h3 st hcl
    subst h1; subst h2; subst h3
    exact Or.inr ⟨q, (T.setVm vm₁).calling g' mk (Value.ref b :: As).toArray, t, U', L, E, ce, hT, X', hL, e1, e2, hq, hce, hcv, vx_cls hW₁ hcl, st⟩
theorem vx_runSX {hh : List (Nat × Nat × Nat × Nat)} (S : CallFix p m c cc nL s args Ts own) (hM : vx_Met l y ws rm Pc Qc XC mc ms free) (cw : vx_CSW R s args own index y bytes maxL ret hh ws rm mc ms n) (hp : PreS s H Pc As)
    (hg : g.method = m) (hn : As.length = n) (hsize : g.locals.size = nL) (hstack : g.stack = As.reverse ++ rest) (hW : 2 * g.monitorRoom + (rest.map fun v => v.category).sum ≤ 8) (hdg : decode cc g.pc = .ok (.invokestatic index, 3)) (hf : cells + mc ≤ R.cells ∧ slots + ms ≤ R.slots) :
    vx_Run p l e R s m args below meth c H locs cells slots mc ms g rest (Qc As.toArray) XC free := by
  obtain ⟨⟨hrc, hrs, hfr, hlo, hws, hcw⟩, hcode, hini, hy, hlen, hl, hstt⟩ := cw
  have hK : vx_Back l R p e below s args y 3 8 (PreOf R mc ms Pc) (PostOf Qc mc ms free) (vx_Post XC mc ms free) := vx_backW (hh := hh) (bytes := bytes) (maxL := maxL) (ret := ret) hM hp.1 hrc hrs hfr hlo hws hcw (fun a' U hW => word_at hW (Or.inl (by first | rfl | simp [Cond.onTables, Cond.keeps, Cond.steady])) hini)
  obtain ⟨hx, hb, hml, ho, -⟩ := S
  intro T hT X
  rcases vx_callSX X hx (hh := hh) (bytes := bytes) (maxL := maxL) (ret := ret) ho hl hstt hini hcode hy hK hg (hsize.trans hml.symm) (argsL := As) (rest := rest) (fun sig h => hn.trans (hlen sig h)) hstack hW (by rw [hb]; exact hdg)
    (fun vm₁ hW₁ => ⟨hf.1, hf.2, hp.2 (T.setVm vm₁) hT hW₁⟩) with ⟨v, vm₁, ⟨U', l2, c2, s2⟩, hW₁, X', ⟨g', mk, t, L, e1, e2, hq, h1, hL, h2, h3⟩, st⟩ | ⟨q, vm₁, ⟨U', l2, c2, s2⟩, hW₁, X', ⟨g', mk, t, L, E, ce, e1, e2, hq, hce, hcv, hcl, h1, hL, h2, h3⟩, st⟩
  · dsimp only [Pt.U, Pt.locs, Pt.cells, Pt.slots] at X' e1 e2 h1 h2 h3 st
    subst h1; subst h2; subst h3
    exact Or.inl ⟨v, (T.setVm vm₁).calling g' mk As.toArray, t, U', L, hT, X', hL, e1, e2, hq, st⟩
  · dsimp only [Pt.U, Pt.locs, Pt.cells, Pt.slots] at X' e1 e2 h1 h2 h3 st hcl
    subst h1; subst h2; subst h3
    exact Or.inr ⟨q, (T.setVm vm₁).calling g' mk As.toArray, t, U', L, E, ce, hT, X', hL, e1, e2, hq, hce, hcv, vx_cls hW₁ hcl, st⟩
end
end VXH
theorem vx_ofWH {l : Launch} {y : MethodName} {ws ws' : List Cond} {rm : Room} {Pc : Array Value → State → Prop} {Qc : Array Value → State → Outcome → State → Prop} {XC : String → State → State → Prop} {mc ms : Nat} {free : Addr → Prop} {cc : ByteArray} {maxL : Nat} {ret : Option FieldType} {hh : List (Nat × Nat × Nat × Nat)}
    (hy : plainName y.cls = true) (hw : ws = Cond.codeWith y cc maxL ret hh :: ws')
    (body : ∀ p e s m args below meth c s₁, BodyLoose p l y (headSpec ws rm) cc maxL ret e s m args below meth c s₁ → c.maxLocals = maxL → Pc args s →
      W p l e (headSpec ws rm).room s m args below meth c s.heap [] 0 0 (vx_MQ below Qc XC args s mc ms free) (entryFrame m args maxL)) : vx_Met l y ws rm Pc Qc XC mc ms free := by
  refine MetFree.of_bodyS (code := cc) (maxLocals := maxL) (ret := ret) hy ?_ ?_
  · intro args s m h hn
    obtain ⟨m9, meth, c, hn9, h1, h2, h3, h4, -, h5, h6, -⟩ := Cond.codeWith_spec (atoms_spec (ws := ws) h _ (by rw [hw]; exact List.mem_cons_self))
    cases hn.symm.trans hn9
    exact ⟨meth, c, h1, h2, h3, h4, h5, h6⟩
  · intro p e s m args below meth c s₁ B hml hP _
    have hh0 : s₁.heap = s.heap := by rw [B.state]; rfl
    obtain ⟨t, a1, o, b1, b2, b3⟩ := body p e s m args below meth c s₁ B hml hP s₁ hh0 (Stand.of_body B)
    exact ⟨t, o, a1, b1, b2, b3⟩
/-! ===== END ===== -/

/-! ===== BEGIN printed: names, fields, word lists, decode rows ===== -/
def RX0 : String := "CoefTurns"
def TX0 : u_T := fun k => match k with
  | 0 => ("CoefTurns", "cells", "[I", true)
  | 1 => ("CoefTurns", "keptCells", "[I", true)
  | 2 => ("CoefTurns", "width", "I", false)
  | 3 => ("CoefTurns", "height", "I", false)
  | 4 => ("CoefTurns", "keptWidth", "I", false)
  | _ => ("CoefTurns", "keptHeight", "I", false)
def tyX0 : Nat → FieldType := fun k => match k with
  | 0 => .array .int
  | 1 => .array .int
  | 2 => .int
  | 3 => .int
  | 4 => .int
  | _ => .int
abbrev wsX00 : List Cond := u_ws RX0 TX0 6
theorem nmX0 : ∀ a, a < 6 → ∀ b, b < 6 → a ≠ b → (TX0 a).2.1 ≠ (TX0 b).2.1 := by decide +kernel
theorem tyX0_ok : ∀ k, k < 6 → parseFieldDescriptor (TX0 k).2.2.1 = some (tyX0 k) := by decide +kernel
abbrev cX0_init : ByteArray := prog_1_method_1_code
def yX0_init : MethodName := ⟨RX0, "<init>", "(II)V"⟩
abbrev cX0_put : ByteArray := prog_1_method_2_code
def yX0_put : MethodName := ⟨RX0, "put", "(IIII)V"⟩
abbrev cX0_fill : ByteArray := prog_1_method_3_code
def yX0_fill : MethodName := ⟨RX0, "fill", "(I)V"⟩
abbrev cX0_transpose : ByteArray := prog_1_method_4_code
def yX0_transpose : MethodName := ⟨RX0, "transpose", "()V"⟩
abbrev cX0_mirror : ByteArray := prog_1_method_5_code
def yX0_mirror : MethodName := ⟨RX0, "mirror", "()V"⟩
abbrev cX0_flip : ByteArray := prog_1_method_6_code
def yX0_flip : MethodName := ⟨RX0, "flip", "()V"⟩
abbrev cX0_turn : ByteArray := prog_1_method_7_code
def yX0_turn : MethodName := ⟨RX0, "turn", "(I)V"⟩
abbrev cX0_crop : ByteArray := prog_1_method_8_code
def yX0_crop : MethodName := ⟨RX0, "crop", "(IIII)Z"⟩
abbrev cX0_swap : ByteArray := prog_1_method_9_code
def yX0_swap : MethodName := ⟨RX0, "swap", "(IIII)Z"⟩
abbrev cX0_keep : ByteArray := prog_1_method_10_code
def yX0_keep : MethodName := ⟨RX0, "keep", "()V"⟩
abbrev cX0_restore : ByteArray := prog_1_method_11_code
def yX0_restore : MethodName := ⟨RX0, "restore", "()V"⟩
abbrev cX0_differ : ByteArray := prog_1_method_12_code
def yX0_differ : MethodName := ⟨RX0, "differ", "()I"⟩
abbrev cX0_at : ByteArray := prog_1_method_13_code
def yX0_at : MethodName := ⟨RX0, "at", "(III)I"⟩
abbrev cX0_four : ByteArray := prog_1_method_14_code
def yX0_four : MethodName := ⟨RX0, "four", "(IIII)J"⟩
abbrev cX0_look : ByteArray := prog_1_method_16_code
def yX0_look : MethodName := ⟨RX0, "look", "(I)I"⟩
abbrev cX0_nearestSize : ByteArray := prog_1_method_17_code
def yX0_nearestSize : MethodName := ⟨RX0, "nearestSize", "(I)I"⟩
abbrev cX0_isPlace : ByteArray := prog_1_method_18_code
def yX0_isPlace : MethodName := ⟨RX0, "isPlace", "(I)Z"⟩
abbrev cX0_isBlock : ByteArray := prog_1_method_19_code
def yX0_isBlock : MethodName := ⟨RX0, "isBlock", "(II)Z"⟩
abbrev cX0_blockStart : ByteArray := prog_1_method_20_code
def yX0_blockStart : MethodName := ⟨RX0, "blockStart", "(II)I"⟩
abbrev cX0_fillBlock : ByteArray := prog_1_method_21_code
def yX0_fillBlock : MethodName := ⟨RX0, "fillBlock", "(II)V"⟩
abbrev cX0_exchangeAcrossDiagonal : ByteArray := prog_1_method_22_code
def yX0_exchangeAcrossDiagonal : MethodName := ⟨RX0, "exchangeAcrossDiagonal", "(I)V"⟩
abbrev cX0_exchangeBlocks : ByteArray := prog_1_method_23_code
def yX0_exchangeBlocks : MethodName := ⟨RX0, "exchangeBlocks", "(II)V"⟩
abbrev cX0_transposeBlock : ByteArray := prog_1_method_24_code
def yX0_transposeBlock : MethodName := ⟨RX0, "transposeBlock", "(I)V"⟩
abbrev cX0_exchangeCells : ByteArray := prog_1_method_25_code
def yX0_exchangeCells : MethodName := ⟨RX0, "exchangeCells", "(II)V"⟩
abbrev cX0_negatePlaces : ByteArray := prog_1_method_26_code
def yX0_negatePlaces : MethodName := ⟨RX0, "negatePlaces", "(I)V"⟩
abbrev cX0_countNotZero : ByteArray := prog_1_method_27_code
def yX0_countNotZero : MethodName := ⟨RX0, "countNotZero", "()I"⟩
abbrev cX0_greatestSize : ByteArray := prog_1_method_28_code
def yX0_greatestSize : MethodName := ⟨RX0, "greatestSize", "()I"⟩
def RX1 : String := "CoefTurnsModel"
def TX1 : u_T := fun k => match k with
  | _ => ("", "", "", false)
def tyX1 : Nat → FieldType := fun k => match k with
  | _ => .int
abbrev wsX10 : List Cond := u_ws RX1 TX1 0
theorem nmX1 : ∀ a, a < 0 → ∀ b, b < 0 → a ≠ b → (TX1 a).2.1 ≠ (TX1 b).2.1 := by decide +kernel
theorem tyX1_ok : ∀ k, k < 0 → parseFieldDescriptor (TX1 k).2.2.1 = some (tyX1 k) := by decide +kernel
def RJ9 : String := "java/lang/Math"
def TJ9 : u_T := fun k => match k with
  | _ => ("", "", "", false)
def tyJ9 : Nat → FieldType := fun k => match k with
  | _ => .int
abbrev wsJ90 : List Cond := u_ws RJ9 TJ9 0
theorem nmJ9 : ∀ a, a < 0 → ∀ b, b < 0 → a ≠ b → (TJ9 a).2.1 ≠ (TJ9 b).2.1 := by decide +kernel
theorem tyJ9_ok : ∀ k, k < 0 → parseFieldDescriptor (TJ9 k).2.2.1 = some (tyJ9 k) := by decide +kernel
abbrev cJ9_floorMod_7cf53 : ByteArray := prog_7_method_50_code
def yJ9_floorMod_7cf53 : MethodName := ⟨RJ9, "floorMod", "(II)I"⟩
abbrev cJ9_abs_0f7a4 : ByteArray := prog_7_method_59_code
def yJ9_abs_0f7a4 : MethodName := ⟨RJ9, "abs", "(I)I"⟩
abbrev cJ9_max_7cf53 : ByteArray := prog_7_method_65_code
def yJ9_max_7cf53 : MethodName := ⟨RJ9, "max", "(II)I"⟩
abbrev cJ9_min_7cf53 : ByteArray := prog_7_method_69_code
def yJ9_min_7cf53 : MethodName := ⟨RJ9, "min", "(II)I"⟩
def RJ0 : String := "java/lang/String"
def TJ0 : u_T := fun k => match k with
  | _ => ("", "", "", false)
def tyJ0 : Nat → FieldType := fun k => match k with
  | _ => .int
abbrev wsJ00 : List Cond := u_ws RJ0 TJ0 0
theorem nmJ0 : ∀ a, a < 0 → ∀ b, b < 0 → a ≠ b → (TJ0 a).2.1 ≠ (TJ0 b).2.1 := by decide +kernel
theorem tyJ0_ok : ∀ k, k < 0 → parseFieldDescriptor (TJ0 k).2.2.1 = some (tyJ0 k) := by decide +kernel
def RJ10 : String := "java/lang/System"
def TJ10 : u_T := fun k => match k with
  | _ => ("", "", "", false)
def tyJ10 : Nat → FieldType := fun k => match k with
  | _ => .int
abbrev wsJ100 : List Cond := u_ws RJ10 TJ10 0
theorem nmJ10 : ∀ a, a < 0 → ∀ b, b < 0 → a ≠ b → (TJ10 a).2.1 ≠ (TJ10 b).2.1 := by decide +kernel
theorem tyJ10_ok : ∀ k, k < 0 → parseFieldDescriptor (TJ10 k).2.2.1 = some (tyJ10 k) := by decide +kernel
def RL : String := "CoefTurnsLaw"
abbrev cL_cell : ByteArray := method_2_code
def yL_cell : MethodName := ⟨RL, "cell", "([II)I"⟩
abbrev cL_put : ByteArray := method_3_code
def yL_put : MethodName := ⟨RL, "put", "(LCoefTurns;IIII)I"⟩
abbrev cL_law : ByteArray := code
def yL_law : MethodName := ⟨RL, "law", "([I)Z"⟩
def wsX0_nearestSize : List Cond := .code yX0_nearestSize cX0_nearestSize 1 (some .int) :: ([.methodLink RX0 107 Lib.Math.min.name, .static Lib.Math.min.name, .initialized "java/lang/Math", .code Lib.Math.min.name Lib.Math.min.code 2 (some .int), .methodLink RX0 61 Lib.Math.max.name, .static Lib.Math.max.name, .code Lib.Math.max.name Lib.Math.max.code 2 (some .int)])
def wsX0_init : List Cond := .code yX0_init cX0_init 3 none :: ([.methodLink RX0 3 objectInit, .instanceMethod objectInit, .code objectInit ⟨#[0xb1]⟩ 1 none, .fieldLink RX0 13 "CoefTurns" "width" "I", .fieldLink RX0 17 "CoefTurns" "height" "I", .fieldLink RX0 20 "CoefTurns" "keptWidth" "I", .fieldLink RX0 23 "CoefTurns" "keptHeight" "I", .arrayClass .int, .fieldLink RX0 26 "CoefTurns" "cells" "[I", .fieldLink RX0 30 "CoefTurns" "keptCells" "[I", .methodLink RX0 9 yX0_nearestSize, .static yX0_nearestSize, .initialized RX0, .code yX0_nearestSize cX0_nearestSize 1 (some .int), .methodLink RX0 107 Lib.Math.min.name, .static Lib.Math.min.name, .initialized "java/lang/Math", .code Lib.Math.min.name Lib.Math.min.code 2 (some .int), .methodLink RX0 61 Lib.Math.max.name, .static Lib.Math.max.name, .code Lib.Math.max.name Lib.Math.max.code 2 (some .int)] ++ wsX00)
def wsX0_isBlock : List Cond := .code yX0_isBlock cX0_isBlock 3 (some .boolean) :: ([.fieldLink RX0 13 "CoefTurns" "width" "I", .fieldLink RX0 17 "CoefTurns" "height" "I"] ++ wsX00)
def wsX0_isPlace : List Cond := .code yX0_isPlace cX0_isPlace 1 (some .boolean) :: ([])
def wsX0_blockStart : List Cond := .code yX0_blockStart cX0_blockStart 2 (some .int) :: ([])
def wsX0_put : List Cond := .code yX0_put cX0_put 5 none :: ([.classLink RX0 41 "java/lang/IndexOutOfBoundsException", .initialized "java/lang/IndexOutOfBoundsException", .classLink RX0 48 "java/lang/IllegalArgumentException", .initialized "java/lang/IllegalArgumentException", .fieldLink RX0 26 "CoefTurns" "cells" "[I", .methodLink RX0 33 yX0_isBlock, .instanceMethod yX0_isBlock, .selects RX0 yX0_isBlock yX0_isBlock, .initialized RX0, .code yX0_isBlock cX0_isBlock 3 (some .boolean), .fieldLink RX0 13 "CoefTurns" "width" "I", .fieldLink RX0 17 "CoefTurns" "height" "I", .methodLink RX0 37 yX0_isPlace, .static yX0_isPlace, .code yX0_isPlace cX0_isPlace 1 (some .boolean), .methodLink RX0 53 yX0_blockStart, .static yX0_blockStart, .code yX0_blockStart cX0_blockStart 2 (some .int)] ++ wsX00 ++ (vx_atS RX0 45 "java/lang/IndexOutOfBoundsException" ["java/lang/RuntimeException", "java/lang/Exception"]).filter goodWord ++ (vx_atS RX0 52 "java/lang/IllegalArgumentException" ["java/lang/RuntimeException", "java/lang/Exception"]).filter goodWord)
def wsX0_fillBlock : List Cond := .code yX0_fillBlock cX0_fillBlock 5 none :: ([.constant RX0 110 (40503), .constant RX0 111 (-1640531535), .fieldLink RX0 26 "CoefTurns" "cells" "[I"] ++ wsX00)
def wsX0_fill : List Cond := .code yX0_fill cX0_fill 4 none :: ([.fieldLink RX0 17 "CoefTurns" "height" "I", .fieldLink RX0 13 "CoefTurns" "width" "I", .methodLink RX0 53 yX0_blockStart, .static yX0_blockStart, .initialized RX0, .code yX0_blockStart cX0_blockStart 2 (some .int), .methodLink RX0 57 yX0_fillBlock, .instanceMethod yX0_fillBlock, .selects RX0 yX0_fillBlock yX0_fillBlock, .code yX0_fillBlock cX0_fillBlock 5 none, .constant RX0 110 (40503), .constant RX0 111 (-1640531535), .fieldLink RX0 26 "CoefTurns" "cells" "[I"] ++ wsX00)
def wsX0_exchangeCells : List Cond := .code yX0_exchangeCells cX0_exchangeCells 4 none :: ([.fieldLink RX0 26 "CoefTurns" "cells" "[I"] ++ wsX00)
def wsX0_exchangeBlocks : List Cond := .code yX0_exchangeBlocks cX0_exchangeBlocks 4 none :: ([.methodLink RX0 112 yX0_exchangeCells, .instanceMethod yX0_exchangeCells, .selects RX0 yX0_exchangeCells yX0_exchangeCells, .initialized RX0, .code yX0_exchangeCells cX0_exchangeCells 4 none, .fieldLink RX0 26 "CoefTurns" "cells" "[I"] ++ wsX00)
def wsX0_exchangeAcrossDiagonal : List Cond := .code yX0_exchangeAcrossDiagonal cX0_exchangeAcrossDiagonal 4 none :: ([.methodLink RX0 53 yX0_blockStart, .static yX0_blockStart, .initialized RX0, .code yX0_blockStart cX0_blockStart 2 (some .int), .methodLink RX0 73 yX0_exchangeBlocks, .instanceMethod yX0_exchangeBlocks, .selects RX0 yX0_exchangeBlocks yX0_exchangeBlocks, .code yX0_exchangeBlocks cX0_exchangeBlocks 4 none, .methodLink RX0 112 yX0_exchangeCells, .instanceMethod yX0_exchangeCells, .selects RX0 yX0_exchangeCells yX0_exchangeCells, .code yX0_exchangeCells cX0_exchangeCells 4 none, .fieldLink RX0 26 "CoefTurns" "cells" "[I"] ++ wsX00)
def wsX0_transposeBlock : List Cond := .code yX0_transposeBlock cX0_transposeBlock 4 none :: ([.methodLink RX0 112 yX0_exchangeCells, .instanceMethod yX0_exchangeCells, .selects RX0 yX0_exchangeCells yX0_exchangeCells, .initialized RX0, .code yX0_exchangeCells cX0_exchangeCells 4 none, .fieldLink RX0 26 "CoefTurns" "cells" "[I"] ++ wsX00)
def wsX0_transpose_r1 : List Cond := [Cond.fieldLink RX0 13 "CoefTurns" "width" "I", Cond.fieldLink RX0 17 "CoefTurns" "height" "I", Cond.methodLink RX0 61 Lib.Math.max.name, Cond.static Lib.Math.max.name, Cond.initialized "java/lang/Math", Cond.code Lib.Math.max.name Lib.Math.max.code 2 (some .int), Cond.methodLink RX0 66 yX0_exchangeAcrossDiagonal, Cond.instanceMethod yX0_exchangeAcrossDiagonal, Cond.selects RX0 yX0_exchangeAcrossDiagonal yX0_exchangeAcrossDiagonal, Cond.initialized RX0, Cond.code yX0_exchangeAcrossDiagonal cX0_exchangeAcrossDiagonal 4 none, Cond.methodLink RX0 53 yX0_blockStart, Cond.static yX0_blockStart, Cond.code yX0_blockStart cX0_blockStart 2 (some .int), Cond.methodLink RX0 73 yX0_exchangeBlocks, Cond.instanceMethod yX0_exchangeBlocks, Cond.selects RX0 yX0_exchangeBlocks yX0_exchangeBlocks, Cond.code yX0_exchangeBlocks cX0_exchangeBlocks 4 none, Cond.methodLink RX0 112 yX0_exchangeCells, Cond.instanceMethod yX0_exchangeCells, Cond.selects RX0 yX0_exchangeCells yX0_exchangeCells, Cond.code yX0_exchangeCells cX0_exchangeCells 4 none, Cond.fieldLink RX0 26 "CoefTurns" "cells" "[I", Cond.methodLink RX0 70 yX0_transposeBlock]
def wsX0_transpose_r2 : List Cond := [Cond.instanceMethod yX0_transposeBlock, Cond.selects RX0 yX0_transposeBlock yX0_transposeBlock, Cond.code yX0_transposeBlock cX0_transposeBlock 4 none]
def wsX0_transpose : List Cond := .code yX0_transpose cX0_transpose 4 none :: ((wsX0_transpose_r1 ++ wsX0_transpose_r2) ++ wsX00)
def wsX0_negatePlaces : List Cond := .code yX0_negatePlaces cX0_negatePlaces 5 none :: ([.fieldLink RX0 17 "CoefTurns" "height" "I", .fieldLink RX0 13 "CoefTurns" "width" "I", .fieldLink RX0 26 "CoefTurns" "cells" "[I", .methodLink RX0 53 yX0_blockStart, .static yX0_blockStart, .initialized RX0, .code yX0_blockStart cX0_blockStart 2 (some .int)] ++ wsX00)
def wsX0_mirror : List Cond := .code yX0_mirror cX0_mirror 3 none :: ([.fieldLink RX0 17 "CoefTurns" "height" "I", .fieldLink RX0 13 "CoefTurns" "width" "I", .methodLink RX0 53 yX0_blockStart, .static yX0_blockStart, .initialized RX0, .code yX0_blockStart cX0_blockStart 2 (some .int), .methodLink RX0 73 yX0_exchangeBlocks, .instanceMethod yX0_exchangeBlocks, .selects RX0 yX0_exchangeBlocks yX0_exchangeBlocks, .code yX0_exchangeBlocks cX0_exchangeBlocks 4 none, .methodLink RX0 112 yX0_exchangeCells, .instanceMethod yX0_exchangeCells, .selects RX0 yX0_exchangeCells yX0_exchangeCells, .code yX0_exchangeCells cX0_exchangeCells 4 none, .fieldLink RX0 26 "CoefTurns" "cells" "[I", .methodLink RX0 76 yX0_negatePlaces, .instanceMethod yX0_negatePlaces, .selects RX0 yX0_negatePlaces yX0_negatePlaces, .code yX0_negatePlaces cX0_negatePlaces 5 none] ++ wsX00)
def wsX0_flip : List Cond := .code yX0_flip cX0_flip 3 none :: ([.fieldLink RX0 17 "CoefTurns" "height" "I", .fieldLink RX0 13 "CoefTurns" "width" "I", .methodLink RX0 53 yX0_blockStart, .static yX0_blockStart, .initialized RX0, .code yX0_blockStart cX0_blockStart 2 (some .int), .methodLink RX0 73 yX0_exchangeBlocks, .instanceMethod yX0_exchangeBlocks, .selects RX0 yX0_exchangeBlocks yX0_exchangeBlocks, .code yX0_exchangeBlocks cX0_exchangeBlocks 4 none, .methodLink RX0 112 yX0_exchangeCells, .instanceMethod yX0_exchangeCells, .selects RX0 yX0_exchangeCells yX0_exchangeCells, .code yX0_exchangeCells cX0_exchangeCells 4 none, .fieldLink RX0 26 "CoefTurns" "cells" "[I", .methodLink RX0 76 yX0_negatePlaces, .instanceMethod yX0_negatePlaces, .selects RX0 yX0_negatePlaces yX0_negatePlaces, .code yX0_negatePlaces cX0_negatePlaces 5 none] ++ wsX00)
def wsJ9_floorMod_7cf53 : List Cond := .code yJ9_floorMod_7cf53 cJ9_floorMod_7cf53 3 (some .int) :: ([])
def wsX0_turn_r1 : List Cond := [Cond.methodLink RX0 79 yJ9_floorMod_7cf53, Cond.static yJ9_floorMod_7cf53, Cond.initialized RJ9, Cond.code yJ9_floorMod_7cf53 cJ9_floorMod_7cf53 3 (some .int), Cond.methodLink RX0 82 yX0_transpose, Cond.instanceMethod yX0_transpose, Cond.selects RX0 yX0_transpose yX0_transpose, Cond.initialized RX0, Cond.code yX0_transpose cX0_transpose 4 none, Cond.fieldLink RX0 13 "CoefTurns" "width" "I", Cond.fieldLink RX0 17 "CoefTurns" "height" "I", Cond.methodLink RX0 61 Lib.Math.max.name, Cond.static Lib.Math.max.name, Cond.initialized "java/lang/Math", Cond.code Lib.Math.max.name Lib.Math.max.code 2 (some .int), Cond.methodLink RX0 66 yX0_exchangeAcrossDiagonal, Cond.instanceMethod yX0_exchangeAcrossDiagonal, Cond.selects RX0 yX0_exchangeAcrossDiagonal yX0_exchangeAcrossDiagonal, Cond.code yX0_exchangeAcrossDiagonal cX0_exchangeAcrossDiagonal 4 none, Cond.methodLink RX0 53 yX0_blockStart, Cond.static yX0_blockStart, Cond.code yX0_blockStart cX0_blockStart 2 (some .int), Cond.methodLink RX0 73 yX0_exchangeBlocks, Cond.instanceMethod yX0_exchangeBlocks]
def wsX0_turn_r2 : List Cond := [Cond.selects RX0 yX0_exchangeBlocks yX0_exchangeBlocks, Cond.code yX0_exchangeBlocks cX0_exchangeBlocks 4 none, Cond.methodLink RX0 112 yX0_exchangeCells, Cond.instanceMethod yX0_exchangeCells, Cond.selects RX0 yX0_exchangeCells yX0_exchangeCells, Cond.code yX0_exchangeCells cX0_exchangeCells 4 none, Cond.fieldLink RX0 26 "CoefTurns" "cells" "[I", Cond.methodLink RX0 70 yX0_transposeBlock, Cond.instanceMethod yX0_transposeBlock, Cond.selects RX0 yX0_transposeBlock yX0_transposeBlock, Cond.code yX0_transposeBlock cX0_transposeBlock 4 none, Cond.methodLink RX0 85 yX0_mirror, Cond.instanceMethod yX0_mirror, Cond.selects RX0 yX0_mirror yX0_mirror, Cond.code yX0_mirror cX0_mirror 3 none, Cond.methodLink RX0 76 yX0_negatePlaces, Cond.instanceMethod yX0_negatePlaces, Cond.selects RX0 yX0_negatePlaces yX0_negatePlaces, Cond.code yX0_negatePlaces cX0_negatePlaces 5 none, Cond.methodLink RX0 88 yX0_flip, Cond.instanceMethod yX0_flip, Cond.selects RX0 yX0_flip yX0_flip, Cond.code yX0_flip cX0_flip 3 none]
def wsX0_turn : List Cond := .code yX0_turn cX0_turn 2 none :: ((wsX0_turn_r1 ++ wsX0_turn_r2) ++ wsX00)
def wsX0_crop : List Cond := .code yX0_crop cX0_crop 6 (some .boolean) :: ([.fieldLink RX0 13 "CoefTurns" "width" "I", .fieldLink RX0 17 "CoefTurns" "height" "I", .fieldLink RX0 26 "CoefTurns" "cells" "[I", .methodLink RX0 91 arraycopyName, .native arraycopyName, .static arraycopyName, .initialized "java/lang/System", .methodLink RX0 53 yX0_blockStart, .static yX0_blockStart, .initialized RX0, .code yX0_blockStart cX0_blockStart 2 (some .int)] ++ wsX00)
def wsX0_swap : List Cond := .code yX0_swap cX0_swap 5 (some .boolean) :: ([.methodLink RX0 33 yX0_isBlock, .instanceMethod yX0_isBlock, .selects RX0 yX0_isBlock yX0_isBlock, .initialized RX0, .code yX0_isBlock cX0_isBlock 3 (some .boolean), .fieldLink RX0 13 "CoefTurns" "width" "I", .fieldLink RX0 17 "CoefTurns" "height" "I", .methodLink RX0 53 yX0_blockStart, .static yX0_blockStart, .code yX0_blockStart cX0_blockStart 2 (some .int), .methodLink RX0 73 yX0_exchangeBlocks, .instanceMethod yX0_exchangeBlocks, .selects RX0 yX0_exchangeBlocks yX0_exchangeBlocks, .code yX0_exchangeBlocks cX0_exchangeBlocks 4 none, .methodLink RX0 112 yX0_exchangeCells, .instanceMethod yX0_exchangeCells, .selects RX0 yX0_exchangeCells yX0_exchangeCells, .code yX0_exchangeCells cX0_exchangeCells 4 none, .fieldLink RX0 26 "CoefTurns" "cells" "[I"] ++ wsX00)
def wsX0_keep : List Cond := .code yX0_keep cX0_keep 1 none :: ([.fieldLink RX0 26 "CoefTurns" "cells" "[I", .fieldLink RX0 30 "CoefTurns" "keptCells" "[I", .methodLink RX0 91 arraycopyName, .native arraycopyName, .static arraycopyName, .initialized "java/lang/System", .fieldLink RX0 13 "CoefTurns" "width" "I", .fieldLink RX0 20 "CoefTurns" "keptWidth" "I", .fieldLink RX0 17 "CoefTurns" "height" "I", .fieldLink RX0 23 "CoefTurns" "keptHeight" "I"] ++ wsX00)
def wsX0_restore : List Cond := .code yX0_restore cX0_restore 1 none :: ([.fieldLink RX0 30 "CoefTurns" "keptCells" "[I", .fieldLink RX0 26 "CoefTurns" "cells" "[I", .methodLink RX0 91 arraycopyName, .native arraycopyName, .static arraycopyName, .initialized "java/lang/System", .fieldLink RX0 20 "CoefTurns" "keptWidth" "I", .fieldLink RX0 13 "CoefTurns" "width" "I", .fieldLink RX0 23 "CoefTurns" "keptHeight" "I", .fieldLink RX0 17 "CoefTurns" "height" "I"] ++ wsX00)
def wsX0_differ : List Cond := .code yX0_differ cX0_differ 5 (some .int) :: ([.fieldLink RX0 13 "CoefTurns" "width" "I", .fieldLink RX0 20 "CoefTurns" "keptWidth" "I", .fieldLink RX0 17 "CoefTurns" "height" "I", .fieldLink RX0 23 "CoefTurns" "keptHeight" "I", .fieldLink RX0 26 "CoefTurns" "cells" "[I", .fieldLink RX0 30 "CoefTurns" "keptCells" "[I", .methodLink RX0 53 yX0_blockStart, .static yX0_blockStart, .initialized RX0, .code yX0_blockStart cX0_blockStart 2 (some .int)] ++ wsX00)
def wsX0_at : List Cond := .code yX0_at cX0_at 4 (some .int) :: ([.fieldLink RX0 26 "CoefTurns" "cells" "[I", .methodLink RX0 33 yX0_isBlock, .instanceMethod yX0_isBlock, .selects RX0 yX0_isBlock yX0_isBlock, .initialized RX0, .code yX0_isBlock cX0_isBlock 3 (some .boolean), .fieldLink RX0 13 "CoefTurns" "width" "I", .fieldLink RX0 17 "CoefTurns" "height" "I", .methodLink RX0 37 yX0_isPlace, .static yX0_isPlace, .code yX0_isPlace cX0_isPlace 1 (some .boolean), .methodLink RX0 53 yX0_blockStart, .static yX0_blockStart, .code yX0_blockStart cX0_blockStart 2 (some .int)] ++ wsX00)
def wsX0_four : List Cond := .code yX0_four cX0_four 9 (some .long) :: ([.fieldLink RX0 26 "CoefTurns" "cells" "[I", .constant RX0 97 (65535), .methodLink RX0 33 yX0_isBlock, .instanceMethod yX0_isBlock, .selects RX0 yX0_isBlock yX0_isBlock, .initialized RX0, .code yX0_isBlock cX0_isBlock 3 (some .boolean), .fieldLink RX0 13 "CoefTurns" "width" "I", .fieldLink RX0 17 "CoefTurns" "height" "I", .methodLink RX0 53 yX0_blockStart, .static yX0_blockStart, .code yX0_blockStart cX0_blockStart 2 (some .int)] ++ wsX00)
def wsX0_countNotZero : List Cond := .code yX0_countNotZero cX0_countNotZero 5 (some .int) :: ([.fieldLink RX0 17 "CoefTurns" "height" "I", .fieldLink RX0 13 "CoefTurns" "width" "I", .fieldLink RX0 26 "CoefTurns" "cells" "[I", .methodLink RX0 53 yX0_blockStart, .static yX0_blockStart, .initialized RX0, .code yX0_blockStart cX0_blockStart 2 (some .int)] ++ wsX00)
def wsX0_greatestSize : List Cond := .code yX0_greatestSize cX0_greatestSize 5 (some .int) :: ([.fieldLink RX0 17 "CoefTurns" "height" "I", .fieldLink RX0 13 "CoefTurns" "width" "I", .fieldLink RX0 26 "CoefTurns" "cells" "[I", .methodLink RX0 115 Lib.Math.abs.name, .static Lib.Math.abs.name, .initialized "java/lang/Math", .code Lib.Math.abs.name Lib.Math.abs.code 1 (some .int), .methodLink RX0 61 Lib.Math.max.name, .static Lib.Math.max.name, .code Lib.Math.max.name Lib.Math.max.code 2 (some .int), .methodLink RX0 53 yX0_blockStart, .static yX0_blockStart, .initialized RX0, .code yX0_blockStart cX0_blockStart 2 (some .int)] ++ wsX00)
def wsX0_look : List Cond := .code yX0_look cX0_look 2 (some .int) :: ([.fieldLink RX0 13 "CoefTurns" "width" "I", .fieldLink RX0 17 "CoefTurns" "height" "I", .fieldLink RX0 20 "CoefTurns" "keptWidth" "I", .fieldLink RX0 23 "CoefTurns" "keptHeight" "I", .methodLink RX0 100 yX0_countNotZero, .instanceMethod yX0_countNotZero, .selects RX0 yX0_countNotZero yX0_countNotZero, .initialized RX0, .code yX0_countNotZero cX0_countNotZero 5 (some .int), .fieldLink RX0 26 "CoefTurns" "cells" "[I", .methodLink RX0 53 yX0_blockStart, .static yX0_blockStart, .code yX0_blockStart cX0_blockStart 2 (some .int), .methodLink RX0 104 yX0_greatestSize, .instanceMethod yX0_greatestSize, .selects RX0 yX0_greatestSize yX0_greatestSize, .code yX0_greatestSize cX0_greatestSize 5 (some .int), .methodLink RX0 115 Lib.Math.abs.name, .static Lib.Math.abs.name, .initialized "java/lang/Math", .code Lib.Math.abs.name Lib.Math.abs.code 1 (some .int), .methodLink RX0 61 Lib.Math.max.name, .static Lib.Math.max.name, .code Lib.Math.max.name Lib.Math.max.code 2 (some .int)] ++ wsX00)
def wsJ9_abs_0f7a4 : List Cond := .code yJ9_abs_0f7a4 cJ9_abs_0f7a4 1 (some .int) :: ([])
def wsJ9_max_7cf53 : List Cond := .code yJ9_max_7cf53 cJ9_max_7cf53 2 (some .int) :: ([])
def wsJ9_min_7cf53 : List Cond := .code yJ9_min_7cf53 cJ9_min_7cf53 2 (some .int) :: ([])
def wsL_cell : List Cond := .code yL_cell cL_cell 2 (some .int) :: ([])
def wsL_put : List Cond := .codeWith yL_put cL_put 6 (some .int) [(0, 9, 12, 13), (0, 9, 16, 15)] :: ([.classLink RL 13 "java/lang/IndexOutOfBoundsException", .classLink RL 15 "java/lang/IllegalArgumentException", .methodLink RL 7 yX0_put, .instanceMethod yX0_put, .selects RX0 yX0_put yX0_put, .initialized RX0, .code yX0_put cX0_put 5 none, .classLink RX0 41 "java/lang/IndexOutOfBoundsException", .initialized "java/lang/IndexOutOfBoundsException", .classLink RX0 48 "java/lang/IllegalArgumentException", .initialized "java/lang/IllegalArgumentException", .fieldLink RX0 26 "CoefTurns" "cells" "[I", .methodLink RX0 33 yX0_isBlock, .instanceMethod yX0_isBlock, .selects RX0 yX0_isBlock yX0_isBlock, .code yX0_isBlock cX0_isBlock 3 (some .boolean), .fieldLink RX0 13 "CoefTurns" "width" "I", .fieldLink RX0 17 "CoefTurns" "height" "I", .methodLink RX0 37 yX0_isPlace, .static yX0_isPlace, .code yX0_isPlace cX0_isPlace 1 (some .boolean), .methodLink RX0 53 yX0_blockStart, .static yX0_blockStart, .code yX0_blockStart cX0_blockStart 2 (some .int)] ++ wsX00 ++ (vx_atS RX0 45 "java/lang/IndexOutOfBoundsException" ["java/lang/RuntimeException", "java/lang/Exception"]).filter goodWord ++ (vx_atS RX0 52 "java/lang/IllegalArgumentException" ["java/lang/RuntimeException", "java/lang/Exception"]).filter goodWord)
def wsL_law0_r1 : List Cond := [Cond.classLink RL 8 RX0, Cond.instantiable RX0 6, Cond.initialized RX0, Cond.methodLink RL 21 yL_cell, Cond.static yL_cell, Cond.initialized RL, Cond.code yL_cell cL_cell 2 (some .int), Cond.methodLink RL 27 yX0_init, Cond.instanceMethod yX0_init, Cond.code yX0_init cX0_init 3 none, Cond.methodLink RX0 3 objectInit, Cond.instanceMethod objectInit, Cond.code objectInit ⟨#[0xb1]⟩ 1 none, Cond.fieldLink RX0 13 "CoefTurns" "width" "I", Cond.fieldLink RX0 17 "CoefTurns" "height" "I", Cond.fieldLink RX0 20 "CoefTurns" "keptWidth" "I", Cond.fieldLink RX0 23 "CoefTurns" "keptHeight" "I", Cond.arrayClass .int, Cond.fieldLink RX0 26 "CoefTurns" "cells" "[I", Cond.fieldLink RX0 30 "CoefTurns" "keptCells" "[I", Cond.methodLink RX0 9 yX0_nearestSize, Cond.static yX0_nearestSize, Cond.code yX0_nearestSize cX0_nearestSize 1 (some .int), Cond.methodLink RX0 107 Lib.Math.min.name]
def wsL_law0_r2 : List Cond := [Cond.static Lib.Math.min.name, Cond.initialized "java/lang/Math", Cond.code Lib.Math.min.name Lib.Math.min.code 2 (some .int), Cond.methodLink RX0 61 Lib.Math.max.name, Cond.static Lib.Math.max.name, Cond.code Lib.Math.max.name Lib.Math.max.code 2 (some .int), Cond.methodLink RL 33 yL_put, Cond.static yL_put, Cond.codeWith yL_put cL_put 6 (some .int) [(0, 9, 12, 13), (0, 9, 16, 15)], Cond.classLink RL 13 "java/lang/IndexOutOfBoundsException", Cond.classLink RL 15 "java/lang/IllegalArgumentException", Cond.methodLink RL 7 yX0_put, Cond.instanceMethod yX0_put, Cond.selects RX0 yX0_put yX0_put, Cond.code yX0_put cX0_put 5 none, Cond.classLink RX0 41 "java/lang/IndexOutOfBoundsException", Cond.initialized "java/lang/IndexOutOfBoundsException", Cond.classLink RX0 48 "java/lang/IllegalArgumentException", Cond.initialized "java/lang/IllegalArgumentException", Cond.methodLink RX0 33 yX0_isBlock, Cond.instanceMethod yX0_isBlock, Cond.selects RX0 yX0_isBlock yX0_isBlock, Cond.code yX0_isBlock cX0_isBlock 3 (some .boolean), Cond.methodLink RX0 37 yX0_isPlace]
def wsL_law0_r3 : List Cond := [Cond.static yX0_isPlace, Cond.code yX0_isPlace cX0_isPlace 1 (some .boolean), Cond.methodLink RX0 53 yX0_blockStart, Cond.static yX0_blockStart, Cond.code yX0_blockStart cX0_blockStart 2 (some .int), Cond.methodLink RL 41 yX0_fill, Cond.instanceMethod yX0_fill, Cond.selects RX0 yX0_fill yX0_fill, Cond.code yX0_fill cX0_fill 4 none, Cond.methodLink RX0 57 yX0_fillBlock, Cond.instanceMethod yX0_fillBlock, Cond.selects RX0 yX0_fillBlock yX0_fillBlock, Cond.code yX0_fillBlock cX0_fillBlock 5 none, Cond.constant RX0 110 (40503), Cond.constant RX0 111 (-1640531535), Cond.methodLink RL 46 yX0_transpose, Cond.instanceMethod yX0_transpose, Cond.selects RX0 yX0_transpose yX0_transpose, Cond.code yX0_transpose cX0_transpose 4 none, Cond.methodLink RX0 66 yX0_exchangeAcrossDiagonal, Cond.instanceMethod yX0_exchangeAcrossDiagonal, Cond.selects RX0 yX0_exchangeAcrossDiagonal yX0_exchangeAcrossDiagonal, Cond.code yX0_exchangeAcrossDiagonal cX0_exchangeAcrossDiagonal 4 none, Cond.methodLink RX0 73 yX0_exchangeBlocks]
def wsL_law0_r4 : List Cond := [Cond.instanceMethod yX0_exchangeBlocks, Cond.selects RX0 yX0_exchangeBlocks yX0_exchangeBlocks, Cond.code yX0_exchangeBlocks cX0_exchangeBlocks 4 none, Cond.methodLink RX0 112 yX0_exchangeCells, Cond.instanceMethod yX0_exchangeCells, Cond.selects RX0 yX0_exchangeCells yX0_exchangeCells, Cond.code yX0_exchangeCells cX0_exchangeCells 4 none, Cond.methodLink RX0 70 yX0_transposeBlock, Cond.instanceMethod yX0_transposeBlock, Cond.selects RX0 yX0_transposeBlock yX0_transposeBlock, Cond.code yX0_transposeBlock cX0_transposeBlock 4 none, Cond.methodLink RL 50 yX0_mirror, Cond.instanceMethod yX0_mirror, Cond.selects RX0 yX0_mirror yX0_mirror, Cond.code yX0_mirror cX0_mirror 3 none, Cond.methodLink RX0 76 yX0_negatePlaces, Cond.instanceMethod yX0_negatePlaces, Cond.selects RX0 yX0_negatePlaces yX0_negatePlaces, Cond.code yX0_negatePlaces cX0_negatePlaces 5 none, Cond.methodLink RL 54 yX0_flip, Cond.instanceMethod yX0_flip, Cond.selects RX0 yX0_flip yX0_flip, Cond.code yX0_flip cX0_flip 3 none, Cond.methodLink RL 58 yX0_turn]
def wsL_law0_r5 : List Cond := [Cond.instanceMethod yX0_turn, Cond.selects RX0 yX0_turn yX0_turn, Cond.code yX0_turn cX0_turn 2 none, Cond.methodLink RX0 79 yJ9_floorMod_7cf53, Cond.static yJ9_floorMod_7cf53, Cond.initialized RJ9, Cond.code yJ9_floorMod_7cf53 cJ9_floorMod_7cf53 3 (some .int), Cond.methodLink RX0 82 yX0_transpose, Cond.methodLink RX0 85 yX0_mirror, Cond.methodLink RX0 88 yX0_flip, Cond.methodLink RL 62 yX0_crop, Cond.instanceMethod yX0_crop, Cond.selects RX0 yX0_crop yX0_crop, Cond.code yX0_crop cX0_crop 6 (some .boolean), Cond.methodLink RX0 91 arraycopyName, Cond.native arraycopyName, Cond.static arraycopyName, Cond.initialized "java/lang/System", Cond.methodLink RL 67 yX0_swap, Cond.instanceMethod yX0_swap, Cond.selects RX0 yX0_swap yX0_swap, Cond.code yX0_swap cX0_swap 5 (some .boolean), Cond.methodLink RL 71 yX0_keep, Cond.instanceMethod yX0_keep]
def wsL_law0_r6 : List Cond := [Cond.selects RX0 yX0_keep yX0_keep, Cond.code yX0_keep cX0_keep 1 none, Cond.methodLink RL 75 yX0_restore, Cond.instanceMethod yX0_restore, Cond.selects RX0 yX0_restore yX0_restore, Cond.code yX0_restore cX0_restore 1 none, Cond.methodLink RL 79 yX0_differ, Cond.instanceMethod yX0_differ, Cond.selects RX0 yX0_differ yX0_differ, Cond.code yX0_differ cX0_differ 5 (some .int), Cond.methodLink RL 83 yX0_at, Cond.instanceMethod yX0_at, Cond.selects RX0 yX0_at yX0_at, Cond.code yX0_at cX0_at 4 (some .int), Cond.methodLink RL 88 yX0_four, Cond.instanceMethod yX0_four, Cond.selects RX0 yX0_four yX0_four, Cond.code yX0_four cX0_four 9 (some .long), Cond.constant RX0 97 (65535), Cond.methodLink RL 97 yX0_look, Cond.instanceMethod yX0_look, Cond.selects RX0 yX0_look yX0_look, Cond.code yX0_look cX0_look 2 (some .int), Cond.methodLink RX0 100 yX0_countNotZero]
def wsL_law0_r7 : List Cond := [Cond.instanceMethod yX0_countNotZero, Cond.selects RX0 yX0_countNotZero yX0_countNotZero, Cond.code yX0_countNotZero cX0_countNotZero 5 (some .int), Cond.methodLink RX0 104 yX0_greatestSize, Cond.instanceMethod yX0_greatestSize, Cond.selects RX0 yX0_greatestSize yX0_greatestSize, Cond.code yX0_greatestSize cX0_greatestSize 5 (some .int), Cond.methodLink RX0 115 Lib.Math.abs.name, Cond.static Lib.Math.abs.name, Cond.code Lib.Math.abs.name Lib.Math.abs.code 1 (some .int)]
def wsL_law0 : List Cond := (wsL_law0_r1 ++ (wsL_law0_r2 ++ (wsL_law0_r3 ++ (wsL_law0_r4 ++ (wsL_law0_r5 ++ (wsL_law0_r6 ++ wsL_law0_r7)))))) ++ wsX00 ++ ([] : List Cond)
def wsL_law : List Cond := wsL_law0 ++ (vx_atS RX0 45 "java/lang/IndexOutOfBoundsException" ["java/lang/RuntimeException", "java/lang/Exception"]).filter goodWord ++ (vx_atS RX0 52 "java/lang/IllegalArgumentException" ["java/lang/RuntimeException", "java/lang/Exception"]).filter goodWord
set_option maxRecDepth 20000 in
theorem wsL_law_in0 : ∀ w ∈ wsL_law0, w ∈ lw_tbl := fun w h => (goodIn_p wsL_law0 [174, 30, 33, 36, 39, 42, 183, 132, 151, 69, 66, 73, 79, 83, 87, 91, 95, 99, 103, 107, 111, 114, 121, 128, 136, 140, 144, 148, 155, 160, 164, 168, 171] (by decide +kernel) (by decide +kernel) w h).1
theorem wsL_law_x0 : ∀ w ∈ (vx_atS RX0 45 "java/lang/IndexOutOfBoundsException" ["java/lang/RuntimeException", "java/lang/Exception"]).filter goodWord, w ∈ lw_tbl := by decide +kernel
theorem wsL_law_x1 : ∀ w ∈ (vx_atS RX0 52 "java/lang/IllegalArgumentException" ["java/lang/RuntimeException", "java/lang/Exception"]).filter goodWord, w ∈ lw_tbl := by decide +kernel
theorem wsL_law_in : ∀ w ∈ wsL_law, w ∈ lw_tbl := fun w h => (List.mem_append.mp h).elim (fun h => (List.mem_append.mp h).elim (fun h => wsL_law_in0 w h) (fun h => wsL_law_x0 w h)) (fun h => wsL_law_x1 w h)
theorem inlX0 : ∀ w ∈ wsX00, w ∈ wsL_law := fun _ h => List.mem_append_left _ (List.mem_append_left _ (List.mem_append_left _ (List.mem_append_right _ h)))
theorem inX0 : ∀ w ∈ wsX00, w ∈ lw_tbl := fun w h => wsL_law_in w (inlX0 w h)
theorem inX1 : ∀ w ∈ wsX10, w ∈ lw_tbl := by decide +kernel
theorem inJ9 : ∀ w ∈ wsJ90, w ∈ lw_tbl := by decide +kernel
theorem inJ0 : ∀ w ∈ wsJ00, w ∈ lw_tbl := by decide +kernel
theorem inJ10 : ∀ w ∈ wsJ100, w ∈ lw_tbl := by decide +kernel
set_option maxRecDepth 20000 in
theorem ggX0_init_X0_nearestSize : GoodIn wsX0_init wsX0_nearestSize := goodIn_r _ [14, 15, 16, 17, 18, 19, 20, 21] (by decide +kernel) (by decide +kernel)
set_option maxRecDepth 20000 in
theorem gX0_init_X0_nearestSize : GoodIn wsX0_init (va_wsS RX0 9 yX0_nearestSize wsX0_nearestSize) := goodIn_app (goodIn_of _ (by decide +kernel)) ggX0_init_X0_nearestSize
theorem dX0_init_0 : decode cX0_init 0 = .ok (.aload_n 0, 1) := by decide +kernel
theorem dX0_init_1 : decode cX0_init 1 = .ok (.invokespecial 3, 3) := by decide +kernel
theorem dX0_init_4 : decode cX0_init 4 = .ok (.aload_n 0, 1) := by decide +kernel
theorem dX0_init_5 : decode cX0_init 5 = .ok (.iload_n 1, 1) := by decide +kernel
theorem dX0_init_6 : decode cX0_init 6 = .ok (.invokestatic 9, 3) := by decide +kernel
theorem dX0_init_9 : decode cX0_init 9 = .ok (.putfield 13, 3) := by decide +kernel
theorem dX0_init_12 : decode cX0_init 12 = .ok (.aload_n 0, 1) := by decide +kernel
theorem dX0_init_13 : decode cX0_init 13 = .ok (.iload_n 2, 1) := by decide +kernel
theorem dX0_init_14 : decode cX0_init 14 = .ok (.invokestatic 9, 3) := by decide +kernel
theorem dX0_init_17 : decode cX0_init 17 = .ok (.putfield 17, 3) := by decide +kernel
theorem dX0_init_20 : decode cX0_init 20 = .ok (.aload_n 0, 1) := by decide +kernel
theorem dX0_init_21 : decode cX0_init 21 = .ok (.aload_n 0, 1) := by decide +kernel
theorem dX0_init_22 : decode cX0_init 22 = .ok (.getfield 13, 3) := by decide +kernel
theorem dX0_init_25 : decode cX0_init 25 = .ok (.putfield 20, 3) := by decide +kernel
theorem dX0_init_28 : decode cX0_init 28 = .ok (.aload_n 0, 1) := by decide +kernel
theorem dX0_init_29 : decode cX0_init 29 = .ok (.aload_n 0, 1) := by decide +kernel
theorem dX0_init_30 : decode cX0_init 30 = .ok (.getfield 17, 3) := by decide +kernel
theorem dX0_init_33 : decode cX0_init 33 = .ok (.putfield 23, 3) := by decide +kernel
theorem dX0_init_36 : decode cX0_init 36 = .ok (.aload_n 0, 1) := by decide +kernel
theorem dX0_init_37 : decode cX0_init 37 = .ok (.sipush 4096, 3) := by decide +kernel
theorem dX0_init_40 : decode cX0_init 40 = .ok (.newarray .int, 2) := by decide +kernel
theorem dX0_init_42 : decode cX0_init 42 = .ok (.putfield 26, 3) := by decide +kernel
theorem dX0_init_45 : decode cX0_init 45 = .ok (.aload_n 0, 1) := by decide +kernel
theorem dX0_init_46 : decode cX0_init 46 = .ok (.sipush 4096, 3) := by decide +kernel
theorem dX0_init_49 : decode cX0_init 49 = .ok (.newarray .int, 2) := by decide +kernel
theorem dX0_init_51 : decode cX0_init 51 = .ok (.putfield 30, 3) := by decide +kernel
theorem dX0_init_54 : decode cX0_init 54 = .ok (.return_, 1) := by decide +kernel
set_option maxRecDepth 20000 in
theorem ggX0_put_X0_isBlock : GoodIn wsX0_put wsX0_isBlock := goodIn_r _ [10, 11, 12, 19, 20, 21, 22, 23, 24] (by decide +kernel) (by decide +kernel)
set_option maxRecDepth 20000 in
theorem gX0_put_X0_isBlock : GoodIn wsX0_put (wsV RX0 33 RX0 yX0_isBlock wsX0_isBlock) := goodIn_app (goodIn_of _ (by decide +kernel)) ggX0_put_X0_isBlock
set_option maxRecDepth 20000 in
theorem ggX0_put_X0_isPlace : GoodIn wsX0_put wsX0_isPlace := goodIn_r _ [15] (by decide +kernel) (by decide +kernel)
set_option maxRecDepth 20000 in
theorem gX0_put_X0_isPlace : GoodIn wsX0_put (va_wsS RX0 37 yX0_isPlace wsX0_isPlace) := goodIn_app (goodIn_of _ (by decide +kernel)) ggX0_put_X0_isPlace
set_option maxRecDepth 20000 in
theorem ggX0_put_X0_blockStart : GoodIn wsX0_put wsX0_blockStart := goodIn_r _ [18] (by decide +kernel) (by decide +kernel)
set_option maxRecDepth 20000 in
theorem gX0_put_X0_blockStart : GoodIn wsX0_put (va_wsS RX0 53 yX0_blockStart wsX0_blockStart) := goodIn_app (goodIn_of _ (by decide +kernel)) ggX0_put_X0_blockStart
theorem dX0_put_0 : decode cX0_put 0 = .ok (.aload_n 0, 1) := by decide +kernel
theorem dX0_put_1 : decode cX0_put 1 = .ok (.iload_n 1, 1) := by decide +kernel
theorem dX0_put_2 : decode cX0_put 2 = .ok (.iload_n 2, 1) := by decide +kernel
theorem dX0_put_3 : decode cX0_put 3 = .ok (.invokevirtual 33, 3) := by decide +kernel
theorem dX0_put_6 : decode cX0_put 6 = .ok (.ifCond .eq 10, 3) := by decide +kernel
theorem dX0_put_9 : decode cX0_put 9 = .ok (.iload_n 3, 1) := by decide +kernel
theorem dX0_put_10 : decode cX0_put 10 = .ok (.invokestatic 37, 3) := by decide +kernel
theorem dX0_put_13 : decode cX0_put 13 = .ok (.ifCond .ne 13, 3) := by decide +kernel
theorem dX0_put_16 : decode cX0_put 16 = .ok (.new 41, 3) := by decide +kernel
theorem dX0_put_19 : decode cX0_put 19 = .ok (.dup, 1) := by decide +kernel
theorem dX0_put_20 : decode cX0_put 20 = .ok (.ldc 43, 2) := by decide +kernel
theorem dX0_put_22 : decode cX0_put 22 = .ok (.invokespecial 45, 3) := by decide +kernel
theorem dX0_put_25 : decode cX0_put 25 = .ok (.athrow, 1) := by decide +kernel
theorem dX0_put_26 : decode cX0_put 26 = .ok (.iload 4, 2) := by decide +kernel
theorem dX0_put_28 : decode cX0_put 28 = .ok (.sipush (-32767), 3) := by decide +kernel
theorem dX0_put_31 : decode cX0_put 31 = .ok (.if_icmp .lt 11, 3) := by decide +kernel
theorem dX0_put_34 : decode cX0_put 34 = .ok (.iload 4, 2) := by decide +kernel
theorem dX0_put_36 : decode cX0_put 36 = .ok (.sipush 32767, 3) := by decide +kernel
theorem dX0_put_39 : decode cX0_put 39 = .ok (.if_icmp .le 13, 3) := by decide +kernel
theorem dX0_put_42 : decode cX0_put 42 = .ok (.new 48, 3) := by decide +kernel
theorem dX0_put_45 : decode cX0_put 45 = .ok (.dup, 1) := by decide +kernel
theorem dX0_put_46 : decode cX0_put 46 = .ok (.ldc 50, 2) := by decide +kernel
theorem dX0_put_48 : decode cX0_put 48 = .ok (.invokespecial 52, 3) := by decide +kernel
theorem dX0_put_51 : decode cX0_put 51 = .ok (.athrow, 1) := by decide +kernel
theorem dX0_put_52 : decode cX0_put 52 = .ok (.aload_n 0, 1) := by decide +kernel
theorem dX0_put_53 : decode cX0_put 53 = .ok (.getfield 26, 3) := by decide +kernel
theorem dX0_put_56 : decode cX0_put 56 = .ok (.iload_n 1, 1) := by decide +kernel
theorem dX0_put_57 : decode cX0_put 57 = .ok (.iload_n 2, 1) := by decide +kernel
theorem dX0_put_58 : decode cX0_put 58 = .ok (.invokestatic 53, 3) := by decide +kernel
theorem dX0_put_61 : decode cX0_put 61 = .ok (.iload_n 3, 1) := by decide +kernel
theorem dX0_put_62 : decode cX0_put 62 = .ok (.iadd, 1) := by decide +kernel
theorem dX0_put_63 : decode cX0_put 63 = .ok (.iload 4, 2) := by decide +kernel
theorem dX0_put_65 : decode cX0_put 65 = .ok (.iastore, 1) := by decide +kernel
theorem dX0_put_66 : decode cX0_put 66 = .ok (.return_, 1) := by decide +kernel
set_option maxRecDepth 20000 in
theorem ggX0_fill_X0_blockStart : GoodIn wsX0_fill wsX0_blockStart := goodIn_r _ [6] (by decide +kernel) (by decide +kernel)
set_option maxRecDepth 20000 in
theorem gX0_fill_X0_blockStart : GoodIn wsX0_fill (va_wsS RX0 53 yX0_blockStart wsX0_blockStart) := goodIn_app (goodIn_of _ (by decide +kernel)) ggX0_fill_X0_blockStart
set_option maxRecDepth 20000 in
theorem ggX0_fill_X0_fillBlock : GoodIn wsX0_fill wsX0_fillBlock := goodIn_r _ [10, 11, 12, 13, 14, 15, 16, 17, 18, 19] (by decide +kernel) (by decide +kernel)
set_option maxRecDepth 20000 in
theorem gX0_fill_X0_fillBlock : GoodIn wsX0_fill (wsV RX0 57 RX0 yX0_fillBlock wsX0_fillBlock) := goodIn_app (goodIn_of _ (by decide +kernel)) ggX0_fill_X0_fillBlock
theorem dX0_fill_0 : decode cX0_fill 0 = .ok (.iconst 0, 1) := by decide +kernel
theorem dX0_fill_1 : decode cX0_fill 1 = .ok (.istore_n 2, 1) := by decide +kernel
theorem dX0_fill_2 : decode cX0_fill 2 = .ok (.iload_n 2, 1) := by decide +kernel
theorem dX0_fill_3 : decode cX0_fill 3 = .ok (.aload_n 0, 1) := by decide +kernel
theorem dX0_fill_4 : decode cX0_fill 4 = .ok (.getfield 17, 3) := by decide +kernel
theorem dX0_fill_7 : decode cX0_fill 7 = .ok (.if_icmp .ge 35, 3) := by decide +kernel
theorem dX0_fill_10 : decode cX0_fill 10 = .ok (.iconst 0, 1) := by decide +kernel
theorem dX0_fill_11 : decode cX0_fill 11 = .ok (.istore_n 3, 1) := by decide +kernel
theorem dX0_fill_12 : decode cX0_fill 12 = .ok (.iload_n 3, 1) := by decide +kernel
theorem dX0_fill_13 : decode cX0_fill 13 = .ok (.aload_n 0, 1) := by decide +kernel
theorem dX0_fill_14 : decode cX0_fill 14 = .ok (.getfield 13, 3) := by decide +kernel
theorem dX0_fill_17 : decode cX0_fill 17 = .ok (.if_icmp .ge 19, 3) := by decide +kernel
theorem dX0_fill_20 : decode cX0_fill 20 = .ok (.aload_n 0, 1) := by decide +kernel
theorem dX0_fill_21 : decode cX0_fill 21 = .ok (.iload_n 3, 1) := by decide +kernel
theorem dX0_fill_22 : decode cX0_fill 22 = .ok (.iload_n 2, 1) := by decide +kernel
theorem dX0_fill_23 : decode cX0_fill 23 = .ok (.invokestatic 53, 3) := by decide +kernel
theorem dX0_fill_26 : decode cX0_fill 26 = .ok (.iload_n 1, 1) := by decide +kernel
theorem dX0_fill_27 : decode cX0_fill 27 = .ok (.invokevirtual 57, 3) := by decide +kernel
theorem dX0_fill_30 : decode cX0_fill 30 = .ok (.iinc 3 1, 3) := by decide +kernel
theorem dX0_fill_33 : decode cX0_fill 33 = .ok (.goto (-21), 3) := by decide +kernel
theorem dX0_fill_36 : decode cX0_fill 36 = .ok (.iinc 2 1, 3) := by decide +kernel
theorem dX0_fill_39 : decode cX0_fill 39 = .ok (.goto (-37), 3) := by decide +kernel
theorem dX0_fill_42 : decode cX0_fill 42 = .ok (.return_, 1) := by decide +kernel
set_option maxRecDepth 20000 in
theorem ggX0_transpose_X0_exchangeAcrossDiagonal : GoodIn wsX0_transpose wsX0_exchangeAcrossDiagonal := goodIn_r _ [11, 12, 13, 10, 14, 15, 16, 17, 18, 19, 20, 21, 22, 23, 28, 29, 30, 31, 32, 33] (by decide +kernel) (by decide +kernel)
set_option maxRecDepth 20000 in
theorem gX0_transpose_X0_exchangeAcrossDiagonal : GoodIn wsX0_transpose (wsV RX0 66 RX0 yX0_exchangeAcrossDiagonal wsX0_exchangeAcrossDiagonal) := goodIn_app (goodIn_of _ (by decide +kernel)) ggX0_transpose_X0_exchangeAcrossDiagonal
set_option maxRecDepth 20000 in
theorem ggX0_transpose_X0_blockStart : GoodIn wsX0_transpose wsX0_blockStart := goodIn_r _ [14] (by decide +kernel) (by decide +kernel)
set_option maxRecDepth 20000 in
theorem gX0_transpose_X0_blockStart : GoodIn wsX0_transpose (va_wsS RX0 53 yX0_blockStart wsX0_blockStart) := goodIn_app (goodIn_of _ (by decide +kernel)) ggX0_transpose_X0_blockStart
set_option maxRecDepth 20000 in
theorem ggX0_transpose_X0_transposeBlock : GoodIn wsX0_transpose wsX0_transposeBlock := goodIn_r _ [27, 19, 20, 21, 10, 22, 23, 28, 29, 30, 31, 32, 33] (by decide +kernel) (by decide +kernel)
set_option maxRecDepth 20000 in
theorem gX0_transpose_X0_transposeBlock : GoodIn wsX0_transpose (wsV RX0 70 RX0 yX0_transposeBlock wsX0_transposeBlock) := goodIn_app (goodIn_of _ (by decide +kernel)) ggX0_transpose_X0_transposeBlock
theorem dX0_transpose_0 : decode cX0_transpose 0 = .ok (.aload_n 0, 1) := by decide +kernel
theorem dX0_transpose_1 : decode cX0_transpose 1 = .ok (.aload_n 0, 1) := by decide +kernel
theorem dX0_transpose_2 : decode cX0_transpose 2 = .ok (.getfield 13, 3) := by decide +kernel
theorem dX0_transpose_5 : decode cX0_transpose 5 = .ok (.aload_n 0, 1) := by decide +kernel
theorem dX0_transpose_6 : decode cX0_transpose 6 = .ok (.getfield 17, 3) := by decide +kernel
theorem dX0_transpose_9 : decode cX0_transpose 9 = .ok (.invokestatic 61, 3) := by decide +kernel
theorem dX0_transpose_12 : decode cX0_transpose 12 = .ok (.invokevirtual 66, 3) := by decide +kernel
theorem dX0_transpose_15 : decode cX0_transpose 15 = .ok (.aload_n 0, 1) := by decide +kernel
theorem dX0_transpose_16 : decode cX0_transpose 16 = .ok (.getfield 13, 3) := by decide +kernel
theorem dX0_transpose_19 : decode cX0_transpose 19 = .ok (.istore_n 1, 1) := by decide +kernel
theorem dX0_transpose_20 : decode cX0_transpose 20 = .ok (.aload_n 0, 1) := by decide +kernel
theorem dX0_transpose_21 : decode cX0_transpose 21 = .ok (.aload_n 0, 1) := by decide +kernel
theorem dX0_transpose_22 : decode cX0_transpose 22 = .ok (.getfield 17, 3) := by decide +kernel
theorem dX0_transpose_25 : decode cX0_transpose 25 = .ok (.putfield 13, 3) := by decide +kernel
theorem dX0_transpose_28 : decode cX0_transpose 28 = .ok (.aload_n 0, 1) := by decide +kernel
theorem dX0_transpose_29 : decode cX0_transpose 29 = .ok (.iload_n 1, 1) := by decide +kernel
theorem dX0_transpose_30 : decode cX0_transpose 30 = .ok (.putfield 17, 3) := by decide +kernel
theorem dX0_transpose_33 : decode cX0_transpose 33 = .ok (.iconst 0, 1) := by decide +kernel
theorem dX0_transpose_34 : decode cX0_transpose 34 = .ok (.istore_n 2, 1) := by decide +kernel
theorem dX0_transpose_35 : decode cX0_transpose 35 = .ok (.iload_n 2, 1) := by decide +kernel
theorem dX0_transpose_36 : decode cX0_transpose 36 = .ok (.aload_n 0, 1) := by decide +kernel
theorem dX0_transpose_37 : decode cX0_transpose 37 = .ok (.getfield 17, 3) := by decide +kernel
theorem dX0_transpose_40 : decode cX0_transpose 40 = .ok (.if_icmp .ge 34, 3) := by decide +kernel
theorem dX0_transpose_43 : decode cX0_transpose 43 = .ok (.iconst 0, 1) := by decide +kernel
theorem dX0_transpose_44 : decode cX0_transpose 44 = .ok (.istore_n 3, 1) := by decide +kernel
theorem dX0_transpose_45 : decode cX0_transpose 45 = .ok (.iload_n 3, 1) := by decide +kernel
theorem dX0_transpose_46 : decode cX0_transpose 46 = .ok (.aload_n 0, 1) := by decide +kernel
theorem dX0_transpose_47 : decode cX0_transpose 47 = .ok (.getfield 13, 3) := by decide +kernel
theorem dX0_transpose_50 : decode cX0_transpose 50 = .ok (.if_icmp .ge 18, 3) := by decide +kernel
theorem dX0_transpose_53 : decode cX0_transpose 53 = .ok (.aload_n 0, 1) := by decide +kernel
theorem dX0_transpose_54 : decode cX0_transpose 54 = .ok (.iload_n 3, 1) := by decide +kernel
theorem dX0_transpose_55 : decode cX0_transpose 55 = .ok (.iload_n 2, 1) := by decide +kernel
theorem dX0_transpose_56 : decode cX0_transpose 56 = .ok (.invokestatic 53, 3) := by decide +kernel
theorem dX0_transpose_59 : decode cX0_transpose 59 = .ok (.invokevirtual 70, 3) := by decide +kernel
theorem dX0_transpose_62 : decode cX0_transpose 62 = .ok (.iinc 3 1, 3) := by decide +kernel
theorem dX0_transpose_65 : decode cX0_transpose 65 = .ok (.goto (-20), 3) := by decide +kernel
theorem dX0_transpose_68 : decode cX0_transpose 68 = .ok (.iinc 2 1, 3) := by decide +kernel
theorem dX0_transpose_71 : decode cX0_transpose 71 = .ok (.goto (-36), 3) := by decide +kernel
theorem dX0_transpose_74 : decode cX0_transpose 74 = .ok (.return_, 1) := by decide +kernel
set_option maxRecDepth 20000 in
theorem ggX0_mirror_X0_blockStart : GoodIn wsX0_mirror wsX0_blockStart := goodIn_r _ [6] (by decide +kernel) (by decide +kernel)
set_option maxRecDepth 20000 in
theorem gX0_mirror_X0_blockStart : GoodIn wsX0_mirror (va_wsS RX0 53 yX0_blockStart wsX0_blockStart) := goodIn_app (goodIn_of _ (by decide +kernel)) ggX0_mirror_X0_blockStart
set_option maxRecDepth 20000 in
theorem ggX0_mirror_X0_exchangeBlocks : GoodIn wsX0_mirror wsX0_exchangeBlocks := goodIn_r _ [10, 11, 12, 13, 5, 14, 15, 20, 21, 22, 23, 24, 25] (by decide +kernel) (by decide +kernel)
set_option maxRecDepth 20000 in
theorem gX0_mirror_X0_exchangeBlocks : GoodIn wsX0_mirror (wsV RX0 73 RX0 yX0_exchangeBlocks wsX0_exchangeBlocks) := goodIn_app (goodIn_of _ (by decide +kernel)) ggX0_mirror_X0_exchangeBlocks
set_option maxRecDepth 20000 in
theorem ggX0_mirror_X0_negatePlaces : GoodIn wsX0_mirror wsX0_negatePlaces := goodIn_r _ [19, 1, 2, 15, 3, 4, 5, 6, 20, 21, 22, 23, 24, 25] (by decide +kernel) (by decide +kernel)
set_option maxRecDepth 20000 in
theorem gX0_mirror_X0_negatePlaces : GoodIn wsX0_mirror (wsV RX0 76 RX0 yX0_negatePlaces wsX0_negatePlaces) := goodIn_app (goodIn_of _ (by decide +kernel)) ggX0_mirror_X0_negatePlaces
theorem dX0_mirror_0 : decode cX0_mirror 0 = .ok (.iconst 0, 1) := by decide +kernel
theorem dX0_mirror_1 : decode cX0_mirror 1 = .ok (.istore_n 1, 1) := by decide +kernel
theorem dX0_mirror_2 : decode cX0_mirror 2 = .ok (.iload_n 1, 1) := by decide +kernel
theorem dX0_mirror_3 : decode cX0_mirror 3 = .ok (.aload_n 0, 1) := by decide +kernel
theorem dX0_mirror_4 : decode cX0_mirror 4 = .ok (.getfield 17, 3) := by decide +kernel
theorem dX0_mirror_7 : decode cX0_mirror 7 = .ok (.if_icmp .ge 48, 3) := by decide +kernel
theorem dX0_mirror_10 : decode cX0_mirror 10 = .ok (.iconst 0, 1) := by decide +kernel
theorem dX0_mirror_11 : decode cX0_mirror 11 = .ok (.istore_n 2, 1) := by decide +kernel
theorem dX0_mirror_12 : decode cX0_mirror 12 = .ok (.iload_n 2, 1) := by decide +kernel
theorem dX0_mirror_13 : decode cX0_mirror 13 = .ok (.aload_n 0, 1) := by decide +kernel
theorem dX0_mirror_14 : decode cX0_mirror 14 = .ok (.getfield 13, 3) := by decide +kernel
theorem dX0_mirror_17 : decode cX0_mirror 17 = .ok (.iconst 2, 1) := by decide +kernel
theorem dX0_mirror_18 : decode cX0_mirror 18 = .ok (.idiv, 1) := by decide +kernel
theorem dX0_mirror_19 : decode cX0_mirror 19 = .ok (.if_icmp .ge 30, 3) := by decide +kernel
theorem dX0_mirror_22 : decode cX0_mirror 22 = .ok (.aload_n 0, 1) := by decide +kernel
theorem dX0_mirror_23 : decode cX0_mirror 23 = .ok (.iload_n 2, 1) := by decide +kernel
theorem dX0_mirror_24 : decode cX0_mirror 24 = .ok (.iload_n 1, 1) := by decide +kernel
theorem dX0_mirror_25 : decode cX0_mirror 25 = .ok (.invokestatic 53, 3) := by decide +kernel
theorem dX0_mirror_28 : decode cX0_mirror 28 = .ok (.aload_n 0, 1) := by decide +kernel
theorem dX0_mirror_29 : decode cX0_mirror 29 = .ok (.getfield 13, 3) := by decide +kernel
theorem dX0_mirror_32 : decode cX0_mirror 32 = .ok (.iconst 1, 1) := by decide +kernel
theorem dX0_mirror_33 : decode cX0_mirror 33 = .ok (.isub, 1) := by decide +kernel
theorem dX0_mirror_34 : decode cX0_mirror 34 = .ok (.iload_n 2, 1) := by decide +kernel
theorem dX0_mirror_35 : decode cX0_mirror 35 = .ok (.isub, 1) := by decide +kernel
theorem dX0_mirror_36 : decode cX0_mirror 36 = .ok (.iload_n 1, 1) := by decide +kernel
theorem dX0_mirror_37 : decode cX0_mirror 37 = .ok (.invokestatic 53, 3) := by decide +kernel
theorem dX0_mirror_40 : decode cX0_mirror 40 = .ok (.invokevirtual 73, 3) := by decide +kernel
theorem dX0_mirror_43 : decode cX0_mirror 43 = .ok (.iinc 2 1, 3) := by decide +kernel
theorem dX0_mirror_46 : decode cX0_mirror 46 = .ok (.goto (-34), 3) := by decide +kernel
theorem dX0_mirror_49 : decode cX0_mirror 49 = .ok (.iinc 1 1, 3) := by decide +kernel
theorem dX0_mirror_52 : decode cX0_mirror 52 = .ok (.goto (-50), 3) := by decide +kernel
theorem dX0_mirror_55 : decode cX0_mirror 55 = .ok (.aload_n 0, 1) := by decide +kernel
theorem dX0_mirror_56 : decode cX0_mirror 56 = .ok (.iconst 1, 1) := by decide +kernel
theorem dX0_mirror_57 : decode cX0_mirror 57 = .ok (.invokevirtual 76, 3) := by decide +kernel
theorem dX0_mirror_60 : decode cX0_mirror 60 = .ok (.return_, 1) := by decide +kernel
set_option maxRecDepth 20000 in
theorem ggX0_flip_X0_blockStart : GoodIn wsX0_flip wsX0_blockStart := goodIn_r _ [6] (by decide +kernel) (by decide +kernel)
set_option maxRecDepth 20000 in
theorem gX0_flip_X0_blockStart : GoodIn wsX0_flip (va_wsS RX0 53 yX0_blockStart wsX0_blockStart) := goodIn_app (goodIn_of _ (by decide +kernel)) ggX0_flip_X0_blockStart
set_option maxRecDepth 20000 in
theorem ggX0_flip_X0_exchangeBlocks : GoodIn wsX0_flip wsX0_exchangeBlocks := goodIn_r _ [10, 11, 12, 13, 5, 14, 15, 20, 21, 22, 23, 24, 25] (by decide +kernel) (by decide +kernel)
set_option maxRecDepth 20000 in
theorem gX0_flip_X0_exchangeBlocks : GoodIn wsX0_flip (wsV RX0 73 RX0 yX0_exchangeBlocks wsX0_exchangeBlocks) := goodIn_app (goodIn_of _ (by decide +kernel)) ggX0_flip_X0_exchangeBlocks
set_option maxRecDepth 20000 in
theorem ggX0_flip_X0_negatePlaces : GoodIn wsX0_flip wsX0_negatePlaces := goodIn_r _ [19, 1, 2, 15, 3, 4, 5, 6, 20, 21, 22, 23, 24, 25] (by decide +kernel) (by decide +kernel)
set_option maxRecDepth 20000 in
theorem gX0_flip_X0_negatePlaces : GoodIn wsX0_flip (wsV RX0 76 RX0 yX0_negatePlaces wsX0_negatePlaces) := goodIn_app (goodIn_of _ (by decide +kernel)) ggX0_flip_X0_negatePlaces
theorem dX0_flip_0 : decode cX0_flip 0 = .ok (.iconst 0, 1) := by decide +kernel
theorem dX0_flip_1 : decode cX0_flip 1 = .ok (.istore_n 1, 1) := by decide +kernel
theorem dX0_flip_2 : decode cX0_flip 2 = .ok (.iload_n 1, 1) := by decide +kernel
theorem dX0_flip_3 : decode cX0_flip 3 = .ok (.aload_n 0, 1) := by decide +kernel
theorem dX0_flip_4 : decode cX0_flip 4 = .ok (.getfield 17, 3) := by decide +kernel
theorem dX0_flip_7 : decode cX0_flip 7 = .ok (.iconst 2, 1) := by decide +kernel
theorem dX0_flip_8 : decode cX0_flip 8 = .ok (.idiv, 1) := by decide +kernel
theorem dX0_flip_9 : decode cX0_flip 9 = .ok (.if_icmp .ge 46, 3) := by decide +kernel
theorem dX0_flip_12 : decode cX0_flip 12 = .ok (.iconst 0, 1) := by decide +kernel
theorem dX0_flip_13 : decode cX0_flip 13 = .ok (.istore_n 2, 1) := by decide +kernel
theorem dX0_flip_14 : decode cX0_flip 14 = .ok (.iload_n 2, 1) := by decide +kernel
theorem dX0_flip_15 : decode cX0_flip 15 = .ok (.aload_n 0, 1) := by decide +kernel
theorem dX0_flip_16 : decode cX0_flip 16 = .ok (.getfield 13, 3) := by decide +kernel
theorem dX0_flip_19 : decode cX0_flip 19 = .ok (.if_icmp .ge 30, 3) := by decide +kernel
theorem dX0_flip_22 : decode cX0_flip 22 = .ok (.aload_n 0, 1) := by decide +kernel
theorem dX0_flip_23 : decode cX0_flip 23 = .ok (.iload_n 2, 1) := by decide +kernel
theorem dX0_flip_24 : decode cX0_flip 24 = .ok (.iload_n 1, 1) := by decide +kernel
theorem dX0_flip_25 : decode cX0_flip 25 = .ok (.invokestatic 53, 3) := by decide +kernel
theorem dX0_flip_28 : decode cX0_flip 28 = .ok (.iload_n 2, 1) := by decide +kernel
theorem dX0_flip_29 : decode cX0_flip 29 = .ok (.aload_n 0, 1) := by decide +kernel
theorem dX0_flip_30 : decode cX0_flip 30 = .ok (.getfield 17, 3) := by decide +kernel
theorem dX0_flip_33 : decode cX0_flip 33 = .ok (.iconst 1, 1) := by decide +kernel
theorem dX0_flip_34 : decode cX0_flip 34 = .ok (.isub, 1) := by decide +kernel
theorem dX0_flip_35 : decode cX0_flip 35 = .ok (.iload_n 1, 1) := by decide +kernel
theorem dX0_flip_36 : decode cX0_flip 36 = .ok (.isub, 1) := by decide +kernel
theorem dX0_flip_37 : decode cX0_flip 37 = .ok (.invokestatic 53, 3) := by decide +kernel
theorem dX0_flip_40 : decode cX0_flip 40 = .ok (.invokevirtual 73, 3) := by decide +kernel
theorem dX0_flip_43 : decode cX0_flip 43 = .ok (.iinc 2 1, 3) := by decide +kernel
theorem dX0_flip_46 : decode cX0_flip 46 = .ok (.goto (-32), 3) := by decide +kernel
theorem dX0_flip_49 : decode cX0_flip 49 = .ok (.iinc 1 1, 3) := by decide +kernel
theorem dX0_flip_52 : decode cX0_flip 52 = .ok (.goto (-50), 3) := by decide +kernel
theorem dX0_flip_55 : decode cX0_flip 55 = .ok (.aload_n 0, 1) := by decide +kernel
theorem dX0_flip_56 : decode cX0_flip 56 = .ok (.bipush 8, 2) := by decide +kernel
theorem dX0_flip_58 : decode cX0_flip 58 = .ok (.invokevirtual 76, 3) := by decide +kernel
theorem dX0_flip_61 : decode cX0_flip 61 = .ok (.return_, 1) := by decide +kernel
set_option maxRecDepth 20000 in
theorem ggX0_turn_J9_floorMod_7cf53 : GoodIn wsX0_turn wsJ9_floorMod_7cf53 := goodIn_r _ [4] (by decide +kernel) (by decide +kernel)
set_option maxRecDepth 20000 in
theorem gX0_turn_J9_floorMod_7cf53 : GoodIn wsX0_turn (va_wsS RX0 79 yJ9_floorMod_7cf53 wsJ9_floorMod_7cf53) := goodIn_app (goodIn_of _ (by decide +kernel)) ggX0_turn_J9_floorMod_7cf53
set_option maxRecDepth 20000 in
theorem ggX0_turn_X0_transpose : GoodIn wsX0_turn wsX0_transpose := goodIn_r _ [9, 10, 11, 12, 13, 14, 15, 16, 17, 18, 8, 19, 20, 21, 22, 23, 24, 25, 26, 27, 28, 29, 30, 31, 32, 33, 34, 35, 48, 49, 50, 51, 52, 53] (by decide +kernel) (by decide +kernel)
set_option maxRecDepth 20000 in
theorem gX0_turn_X0_transpose : GoodIn wsX0_turn (wsV RX0 82 RX0 yX0_transpose wsX0_transpose) := goodIn_app (goodIn_of _ (by decide +kernel)) ggX0_turn_X0_transpose
set_option maxRecDepth 20000 in
theorem ggX0_turn_X0_mirror : GoodIn wsX0_turn wsX0_mirror := goodIn_r _ [39, 11, 10, 20, 21, 8, 22, 23, 24, 25, 26, 27, 28, 29, 30, 31, 40, 41, 42, 43, 48, 49, 50, 51, 52, 53] (by decide +kernel) (by decide +kernel)
set_option maxRecDepth 20000 in
theorem gX0_turn_X0_mirror : GoodIn wsX0_turn (wsV RX0 85 RX0 yX0_mirror wsX0_mirror) := goodIn_app (goodIn_of _ (by decide +kernel)) ggX0_turn_X0_mirror
set_option maxRecDepth 20000 in
theorem ggX0_turn_X0_flip : GoodIn wsX0_turn wsX0_flip := goodIn_r _ [47, 11, 10, 20, 21, 8, 22, 23, 24, 25, 26, 27, 28, 29, 30, 31, 40, 41, 42, 43, 48, 49, 50, 51, 52, 53] (by decide +kernel) (by decide +kernel)
set_option maxRecDepth 20000 in
theorem gX0_turn_X0_flip : GoodIn wsX0_turn (wsV RX0 88 RX0 yX0_flip wsX0_flip) := goodIn_app (goodIn_of _ (by decide +kernel)) ggX0_turn_X0_flip
theorem dX0_turn_0 : decode cX0_turn 0 = .ok (.iload_n 1, 1) := by decide +kernel
theorem dX0_turn_1 : decode cX0_turn 1 = .ok (.iconst 4, 1) := by decide +kernel
theorem dX0_turn_2 : decode cX0_turn 2 = .ok (.invokestatic 79, 3) := by decide +kernel
theorem dX0_turn_5 : decode cX0_turn 5 = .ok (.tableswitch 60 1 3 #[27, 38, 49], 27) := by decide +kernel
theorem dX0_turn_32 : decode cX0_turn 32 = .ok (.aload_n 0, 1) := by decide +kernel
theorem dX0_turn_33 : decode cX0_turn 33 = .ok (.invokevirtual 82, 3) := by decide +kernel
theorem dX0_turn_36 : decode cX0_turn 36 = .ok (.aload_n 0, 1) := by decide +kernel
theorem dX0_turn_37 : decode cX0_turn 37 = .ok (.invokevirtual 85, 3) := by decide +kernel
theorem dX0_turn_40 : decode cX0_turn 40 = .ok (.goto 25, 3) := by decide +kernel
theorem dX0_turn_43 : decode cX0_turn 43 = .ok (.aload_n 0, 1) := by decide +kernel
theorem dX0_turn_44 : decode cX0_turn 44 = .ok (.invokevirtual 85, 3) := by decide +kernel
theorem dX0_turn_47 : decode cX0_turn 47 = .ok (.aload_n 0, 1) := by decide +kernel
theorem dX0_turn_48 : decode cX0_turn 48 = .ok (.invokevirtual 88, 3) := by decide +kernel
theorem dX0_turn_51 : decode cX0_turn 51 = .ok (.goto 14, 3) := by decide +kernel
theorem dX0_turn_54 : decode cX0_turn 54 = .ok (.aload_n 0, 1) := by decide +kernel
theorem dX0_turn_55 : decode cX0_turn 55 = .ok (.invokevirtual 82, 3) := by decide +kernel
theorem dX0_turn_58 : decode cX0_turn 58 = .ok (.aload_n 0, 1) := by decide +kernel
theorem dX0_turn_59 : decode cX0_turn 59 = .ok (.invokevirtual 88, 3) := by decide +kernel
theorem dX0_turn_62 : decode cX0_turn 62 = .ok (.goto 3, 3) := by decide +kernel
theorem dX0_turn_65 : decode cX0_turn 65 = .ok (.return_, 1) := by decide +kernel
set_option maxRecDepth 20000 in
theorem ggX0_crop_X0_blockStart : GoodIn wsX0_crop wsX0_blockStart := goodIn_r _ [11] (by decide +kernel) (by decide +kernel)
set_option maxRecDepth 20000 in
theorem gX0_crop_X0_blockStart : GoodIn wsX0_crop (va_wsS RX0 53 yX0_blockStart wsX0_blockStart) := goodIn_app (goodIn_of _ (by decide +kernel)) ggX0_crop_X0_blockStart
theorem dX0_crop_0 : decode cX0_crop 0 = .ok (.iload_n 3, 1) := by decide +kernel
theorem dX0_crop_1 : decode cX0_crop 1 = .ok (.iconst 1, 1) := by decide +kernel
theorem dX0_crop_2 : decode cX0_crop 2 = .ok (.if_icmp .lt 17, 3) := by decide +kernel
theorem dX0_crop_5 : decode cX0_crop 5 = .ok (.iload 4, 2) := by decide +kernel
theorem dX0_crop_7 : decode cX0_crop 7 = .ok (.iconst 1, 1) := by decide +kernel
theorem dX0_crop_8 : decode cX0_crop 8 = .ok (.if_icmp .lt 11, 3) := by decide +kernel
theorem dX0_crop_11 : decode cX0_crop 11 = .ok (.iload_n 1, 1) := by decide +kernel
theorem dX0_crop_12 : decode cX0_crop 12 = .ok (.ifCond .lt 7, 3) := by decide +kernel
theorem dX0_crop_15 : decode cX0_crop 15 = .ok (.iload_n 2, 1) := by decide +kernel
theorem dX0_crop_16 : decode cX0_crop 16 = .ok (.ifCond .ge 5, 3) := by decide +kernel
theorem dX0_crop_19 : decode cX0_crop 19 = .ok (.iconst 0, 1) := by decide +kernel
theorem dX0_crop_20 : decode cX0_crop 20 = .ok (.ireturn, 1) := by decide +kernel
theorem dX0_crop_21 : decode cX0_crop 21 = .ok (.iload_n 3, 1) := by decide +kernel
theorem dX0_crop_22 : decode cX0_crop 22 = .ok (.aload_n 0, 1) := by decide +kernel
theorem dX0_crop_23 : decode cX0_crop 23 = .ok (.getfield 13, 3) := by decide +kernel
theorem dX0_crop_26 : decode cX0_crop 26 = .ok (.iload_n 1, 1) := by decide +kernel
theorem dX0_crop_27 : decode cX0_crop 27 = .ok (.isub, 1) := by decide +kernel
theorem dX0_crop_28 : decode cX0_crop 28 = .ok (.if_icmp .gt 14, 3) := by decide +kernel
theorem dX0_crop_31 : decode cX0_crop 31 = .ok (.iload 4, 2) := by decide +kernel
theorem dX0_crop_33 : decode cX0_crop 33 = .ok (.aload_n 0, 1) := by decide +kernel
theorem dX0_crop_34 : decode cX0_crop 34 = .ok (.getfield 17, 3) := by decide +kernel
theorem dX0_crop_37 : decode cX0_crop 37 = .ok (.iload_n 2, 1) := by decide +kernel
theorem dX0_crop_38 : decode cX0_crop 38 = .ok (.isub, 1) := by decide +kernel
theorem dX0_crop_39 : decode cX0_crop 39 = .ok (.if_icmp .le 5, 3) := by decide +kernel
theorem dX0_crop_42 : decode cX0_crop 42 = .ok (.iconst 0, 1) := by decide +kernel
theorem dX0_crop_43 : decode cX0_crop 43 = .ok (.ireturn, 1) := by decide +kernel
theorem dX0_crop_44 : decode cX0_crop 44 = .ok (.iconst 0, 1) := by decide +kernel
theorem dX0_crop_45 : decode cX0_crop 45 = .ok (.istore 5, 2) := by decide +kernel
theorem dX0_crop_47 : decode cX0_crop 47 = .ok (.iload 5, 2) := by decide +kernel
theorem dX0_crop_49 : decode cX0_crop 49 = .ok (.iload 4, 2) := by decide +kernel
theorem dX0_crop_51 : decode cX0_crop 51 = .ok (.if_icmp .ge 38, 3) := by decide +kernel
theorem dX0_crop_54 : decode cX0_crop 54 = .ok (.aload_n 0, 1) := by decide +kernel
theorem dX0_crop_55 : decode cX0_crop 55 = .ok (.getfield 26, 3) := by decide +kernel
theorem dX0_crop_58 : decode cX0_crop 58 = .ok (.iload_n 1, 1) := by decide +kernel
theorem dX0_crop_59 : decode cX0_crop 59 = .ok (.iload_n 2, 1) := by decide +kernel
theorem dX0_crop_60 : decode cX0_crop 60 = .ok (.iload 5, 2) := by decide +kernel
theorem dX0_crop_62 : decode cX0_crop 62 = .ok (.iadd, 1) := by decide +kernel
theorem dX0_crop_63 : decode cX0_crop 63 = .ok (.invokestatic 53, 3) := by decide +kernel
theorem dX0_crop_66 : decode cX0_crop 66 = .ok (.aload_n 0, 1) := by decide +kernel
theorem dX0_crop_67 : decode cX0_crop 67 = .ok (.getfield 26, 3) := by decide +kernel
theorem dX0_crop_70 : decode cX0_crop 70 = .ok (.iconst 0, 1) := by decide +kernel
theorem dX0_crop_71 : decode cX0_crop 71 = .ok (.iload 5, 2) := by decide +kernel
theorem dX0_crop_73 : decode cX0_crop 73 = .ok (.invokestatic 53, 3) := by decide +kernel
theorem dX0_crop_76 : decode cX0_crop 76 = .ok (.iload_n 3, 1) := by decide +kernel
theorem dX0_crop_77 : decode cX0_crop 77 = .ok (.bipush 64, 2) := by decide +kernel
theorem dX0_crop_79 : decode cX0_crop 79 = .ok (.imul, 1) := by decide +kernel
theorem dX0_crop_80 : decode cX0_crop 80 = .ok (.invokestatic 91, 3) := by decide +kernel
theorem dX0_crop_83 : decode cX0_crop 83 = .ok (.iinc 5 1, 3) := by decide +kernel
theorem dX0_crop_86 : decode cX0_crop 86 = .ok (.goto (-39), 3) := by decide +kernel
theorem dX0_crop_89 : decode cX0_crop 89 = .ok (.aload_n 0, 1) := by decide +kernel
theorem dX0_crop_90 : decode cX0_crop 90 = .ok (.iload_n 3, 1) := by decide +kernel
theorem dX0_crop_91 : decode cX0_crop 91 = .ok (.putfield 13, 3) := by decide +kernel
theorem dX0_crop_94 : decode cX0_crop 94 = .ok (.aload_n 0, 1) := by decide +kernel
theorem dX0_crop_95 : decode cX0_crop 95 = .ok (.iload 4, 2) := by decide +kernel
theorem dX0_crop_97 : decode cX0_crop 97 = .ok (.putfield 17, 3) := by decide +kernel
theorem dX0_crop_100 : decode cX0_crop 100 = .ok (.iconst 1, 1) := by decide +kernel
theorem dX0_crop_101 : decode cX0_crop 101 = .ok (.ireturn, 1) := by decide +kernel
set_option maxRecDepth 20000 in
theorem ggX0_swap_X0_isBlock : GoodIn wsX0_swap wsX0_isBlock := goodIn_r _ [5, 6, 7, 20, 21, 22, 23, 24, 25] (by decide +kernel) (by decide +kernel)
set_option maxRecDepth 20000 in
theorem gX0_swap_X0_isBlock : GoodIn wsX0_swap (wsV RX0 33 RX0 yX0_isBlock wsX0_isBlock) := goodIn_app (goodIn_of _ (by decide +kernel)) ggX0_swap_X0_isBlock
set_option maxRecDepth 20000 in
theorem ggX0_swap_X0_blockStart : GoodIn wsX0_swap wsX0_blockStart := goodIn_r _ [10] (by decide +kernel) (by decide +kernel)
set_option maxRecDepth 20000 in
theorem gX0_swap_X0_blockStart : GoodIn wsX0_swap (va_wsS RX0 53 yX0_blockStart wsX0_blockStart) := goodIn_app (goodIn_of _ (by decide +kernel)) ggX0_swap_X0_blockStart
set_option maxRecDepth 20000 in
theorem ggX0_swap_X0_exchangeBlocks : GoodIn wsX0_swap wsX0_exchangeBlocks := goodIn_r _ [14, 15, 16, 17, 4, 18, 19, 20, 21, 22, 23, 24, 25] (by decide +kernel) (by decide +kernel)
set_option maxRecDepth 20000 in
theorem gX0_swap_X0_exchangeBlocks : GoodIn wsX0_swap (wsV RX0 73 RX0 yX0_exchangeBlocks wsX0_exchangeBlocks) := goodIn_app (goodIn_of _ (by decide +kernel)) ggX0_swap_X0_exchangeBlocks
theorem dX0_swap_0 : decode cX0_swap 0 = .ok (.aload_n 0, 1) := by decide +kernel
theorem dX0_swap_1 : decode cX0_swap 1 = .ok (.iload_n 1, 1) := by decide +kernel
theorem dX0_swap_2 : decode cX0_swap 2 = .ok (.iload_n 2, 1) := by decide +kernel
theorem dX0_swap_3 : decode cX0_swap 3 = .ok (.invokevirtual 33, 3) := by decide +kernel
theorem dX0_swap_6 : decode cX0_swap 6 = .ok (.ifCond .eq 13, 3) := by decide +kernel
theorem dX0_swap_9 : decode cX0_swap 9 = .ok (.aload_n 0, 1) := by decide +kernel
theorem dX0_swap_10 : decode cX0_swap 10 = .ok (.iload_n 3, 1) := by decide +kernel
theorem dX0_swap_11 : decode cX0_swap 11 = .ok (.iload 4, 2) := by decide +kernel
theorem dX0_swap_13 : decode cX0_swap 13 = .ok (.invokevirtual 33, 3) := by decide +kernel
theorem dX0_swap_16 : decode cX0_swap 16 = .ok (.ifCond .ne 5, 3) := by decide +kernel
theorem dX0_swap_19 : decode cX0_swap 19 = .ok (.iconst 0, 1) := by decide +kernel
theorem dX0_swap_20 : decode cX0_swap 20 = .ok (.ireturn, 1) := by decide +kernel
theorem dX0_swap_21 : decode cX0_swap 21 = .ok (.aload_n 0, 1) := by decide +kernel
theorem dX0_swap_22 : decode cX0_swap 22 = .ok (.iload_n 1, 1) := by decide +kernel
theorem dX0_swap_23 : decode cX0_swap 23 = .ok (.iload_n 2, 1) := by decide +kernel
theorem dX0_swap_24 : decode cX0_swap 24 = .ok (.invokestatic 53, 3) := by decide +kernel
theorem dX0_swap_27 : decode cX0_swap 27 = .ok (.iload_n 3, 1) := by decide +kernel
theorem dX0_swap_28 : decode cX0_swap 28 = .ok (.iload 4, 2) := by decide +kernel
theorem dX0_swap_30 : decode cX0_swap 30 = .ok (.invokestatic 53, 3) := by decide +kernel
theorem dX0_swap_33 : decode cX0_swap 33 = .ok (.invokevirtual 73, 3) := by decide +kernel
theorem dX0_swap_36 : decode cX0_swap 36 = .ok (.iconst 1, 1) := by decide +kernel
theorem dX0_swap_37 : decode cX0_swap 37 = .ok (.ireturn, 1) := by decide +kernel
theorem dX0_keep_0 : decode cX0_keep 0 = .ok (.aload_n 0, 1) := by decide +kernel
theorem dX0_keep_1 : decode cX0_keep 1 = .ok (.getfield 26, 3) := by decide +kernel
theorem dX0_keep_4 : decode cX0_keep 4 = .ok (.iconst 0, 1) := by decide +kernel
theorem dX0_keep_5 : decode cX0_keep 5 = .ok (.aload_n 0, 1) := by decide +kernel
theorem dX0_keep_6 : decode cX0_keep 6 = .ok (.getfield 30, 3) := by decide +kernel
theorem dX0_keep_9 : decode cX0_keep 9 = .ok (.iconst 0, 1) := by decide +kernel
theorem dX0_keep_10 : decode cX0_keep 10 = .ok (.sipush 4096, 3) := by decide +kernel
theorem dX0_keep_13 : decode cX0_keep 13 = .ok (.invokestatic 91, 3) := by decide +kernel
theorem dX0_keep_16 : decode cX0_keep 16 = .ok (.aload_n 0, 1) := by decide +kernel
theorem dX0_keep_17 : decode cX0_keep 17 = .ok (.aload_n 0, 1) := by decide +kernel
theorem dX0_keep_18 : decode cX0_keep 18 = .ok (.getfield 13, 3) := by decide +kernel
theorem dX0_keep_21 : decode cX0_keep 21 = .ok (.putfield 20, 3) := by decide +kernel
theorem dX0_keep_24 : decode cX0_keep 24 = .ok (.aload_n 0, 1) := by decide +kernel
theorem dX0_keep_25 : decode cX0_keep 25 = .ok (.aload_n 0, 1) := by decide +kernel
theorem dX0_keep_26 : decode cX0_keep 26 = .ok (.getfield 17, 3) := by decide +kernel
theorem dX0_keep_29 : decode cX0_keep 29 = .ok (.putfield 23, 3) := by decide +kernel
theorem dX0_keep_32 : decode cX0_keep 32 = .ok (.return_, 1) := by decide +kernel
theorem dX0_restore_0 : decode cX0_restore 0 = .ok (.aload_n 0, 1) := by decide +kernel
theorem dX0_restore_1 : decode cX0_restore 1 = .ok (.getfield 30, 3) := by decide +kernel
theorem dX0_restore_4 : decode cX0_restore 4 = .ok (.iconst 0, 1) := by decide +kernel
theorem dX0_restore_5 : decode cX0_restore 5 = .ok (.aload_n 0, 1) := by decide +kernel
theorem dX0_restore_6 : decode cX0_restore 6 = .ok (.getfield 26, 3) := by decide +kernel
theorem dX0_restore_9 : decode cX0_restore 9 = .ok (.iconst 0, 1) := by decide +kernel
theorem dX0_restore_10 : decode cX0_restore 10 = .ok (.sipush 4096, 3) := by decide +kernel
theorem dX0_restore_13 : decode cX0_restore 13 = .ok (.invokestatic 91, 3) := by decide +kernel
theorem dX0_restore_16 : decode cX0_restore 16 = .ok (.aload_n 0, 1) := by decide +kernel
theorem dX0_restore_17 : decode cX0_restore 17 = .ok (.aload_n 0, 1) := by decide +kernel
theorem dX0_restore_18 : decode cX0_restore 18 = .ok (.getfield 20, 3) := by decide +kernel
theorem dX0_restore_21 : decode cX0_restore 21 = .ok (.putfield 13, 3) := by decide +kernel
theorem dX0_restore_24 : decode cX0_restore 24 = .ok (.aload_n 0, 1) := by decide +kernel
theorem dX0_restore_25 : decode cX0_restore 25 = .ok (.aload_n 0, 1) := by decide +kernel
theorem dX0_restore_26 : decode cX0_restore 26 = .ok (.getfield 23, 3) := by decide +kernel
theorem dX0_restore_29 : decode cX0_restore 29 = .ok (.putfield 17, 3) := by decide +kernel
theorem dX0_restore_32 : decode cX0_restore 32 = .ok (.return_, 1) := by decide +kernel
set_option maxRecDepth 20000 in
theorem ggX0_differ_X0_blockStart : GoodIn wsX0_differ wsX0_blockStart := goodIn_r _ [10] (by decide +kernel) (by decide +kernel)
set_option maxRecDepth 20000 in
theorem gX0_differ_X0_blockStart : GoodIn wsX0_differ (va_wsS RX0 53 yX0_blockStart wsX0_blockStart) := goodIn_app (goodIn_of _ (by decide +kernel)) ggX0_differ_X0_blockStart
theorem dX0_differ_0 : decode cX0_differ 0 = .ok (.aload_n 0, 1) := by decide +kernel
theorem dX0_differ_1 : decode cX0_differ 1 = .ok (.getfield 13, 3) := by decide +kernel
theorem dX0_differ_4 : decode cX0_differ 4 = .ok (.aload_n 0, 1) := by decide +kernel
theorem dX0_differ_5 : decode cX0_differ 5 = .ok (.getfield 20, 3) := by decide +kernel
theorem dX0_differ_8 : decode cX0_differ 8 = .ok (.if_icmp .ne 14, 3) := by decide +kernel
theorem dX0_differ_11 : decode cX0_differ 11 = .ok (.aload_n 0, 1) := by decide +kernel
theorem dX0_differ_12 : decode cX0_differ 12 = .ok (.getfield 17, 3) := by decide +kernel
theorem dX0_differ_15 : decode cX0_differ 15 = .ok (.aload_n 0, 1) := by decide +kernel
theorem dX0_differ_16 : decode cX0_differ 16 = .ok (.getfield 23, 3) := by decide +kernel
theorem dX0_differ_19 : decode cX0_differ 19 = .ok (.if_icmp .eq 5, 3) := by decide +kernel
theorem dX0_differ_22 : decode cX0_differ 22 = .ok (.iconst (-1), 1) := by decide +kernel
theorem dX0_differ_23 : decode cX0_differ 23 = .ok (.ireturn, 1) := by decide +kernel
theorem dX0_differ_24 : decode cX0_differ 24 = .ok (.iconst 0, 1) := by decide +kernel
theorem dX0_differ_25 : decode cX0_differ 25 = .ok (.istore_n 1, 1) := by decide +kernel
theorem dX0_differ_26 : decode cX0_differ 26 = .ok (.iconst 0, 1) := by decide +kernel
theorem dX0_differ_27 : decode cX0_differ 27 = .ok (.istore_n 2, 1) := by decide +kernel
theorem dX0_differ_28 : decode cX0_differ 28 = .ok (.iload_n 2, 1) := by decide +kernel
theorem dX0_differ_29 : decode cX0_differ 29 = .ok (.aload_n 0, 1) := by decide +kernel
theorem dX0_differ_30 : decode cX0_differ 30 = .ok (.getfield 17, 3) := by decide +kernel
theorem dX0_differ_33 : decode cX0_differ 33 = .ok (.if_icmp .ge 57, 3) := by decide +kernel
theorem dX0_differ_36 : decode cX0_differ 36 = .ok (.aload_n 0, 1) := by decide +kernel
theorem dX0_differ_37 : decode cX0_differ 37 = .ok (.getfield 13, 3) := by decide +kernel
theorem dX0_differ_40 : decode cX0_differ 40 = .ok (.iload_n 2, 1) := by decide +kernel
theorem dX0_differ_41 : decode cX0_differ 41 = .ok (.invokestatic 53, 3) := by decide +kernel
theorem dX0_differ_44 : decode cX0_differ 44 = .ok (.istore_n 3, 1) := by decide +kernel
theorem dX0_differ_45 : decode cX0_differ 45 = .ok (.iconst 0, 1) := by decide +kernel
theorem dX0_differ_46 : decode cX0_differ 46 = .ok (.iload_n 2, 1) := by decide +kernel
theorem dX0_differ_47 : decode cX0_differ 47 = .ok (.invokestatic 53, 3) := by decide +kernel
theorem dX0_differ_50 : decode cX0_differ 50 = .ok (.istore 4, 2) := by decide +kernel
theorem dX0_differ_52 : decode cX0_differ 52 = .ok (.iload 4, 2) := by decide +kernel
theorem dX0_differ_54 : decode cX0_differ 54 = .ok (.iload_n 3, 1) := by decide +kernel
theorem dX0_differ_55 : decode cX0_differ 55 = .ok (.if_icmp .ge 29, 3) := by decide +kernel
theorem dX0_differ_58 : decode cX0_differ 58 = .ok (.aload_n 0, 1) := by decide +kernel
theorem dX0_differ_59 : decode cX0_differ 59 = .ok (.getfield 26, 3) := by decide +kernel
theorem dX0_differ_62 : decode cX0_differ 62 = .ok (.iload 4, 2) := by decide +kernel
theorem dX0_differ_64 : decode cX0_differ 64 = .ok (.iaload, 1) := by decide +kernel
theorem dX0_differ_65 : decode cX0_differ 65 = .ok (.aload_n 0, 1) := by decide +kernel
theorem dX0_differ_66 : decode cX0_differ 66 = .ok (.getfield 30, 3) := by decide +kernel
theorem dX0_differ_69 : decode cX0_differ 69 = .ok (.iload 4, 2) := by decide +kernel
theorem dX0_differ_71 : decode cX0_differ 71 = .ok (.iaload, 1) := by decide +kernel
theorem dX0_differ_72 : decode cX0_differ 72 = .ok (.if_icmp .eq 6, 3) := by decide +kernel
theorem dX0_differ_75 : decode cX0_differ 75 = .ok (.iinc 1 1, 3) := by decide +kernel
theorem dX0_differ_78 : decode cX0_differ 78 = .ok (.iinc 4 1, 3) := by decide +kernel
theorem dX0_differ_81 : decode cX0_differ 81 = .ok (.goto (-29), 3) := by decide +kernel
theorem dX0_differ_84 : decode cX0_differ 84 = .ok (.iinc 2 1, 3) := by decide +kernel
theorem dX0_differ_87 : decode cX0_differ 87 = .ok (.goto (-59), 3) := by decide +kernel
theorem dX0_differ_90 : decode cX0_differ 90 = .ok (.iload_n 1, 1) := by decide +kernel
theorem dX0_differ_91 : decode cX0_differ 91 = .ok (.ireturn, 1) := by decide +kernel
set_option maxRecDepth 20000 in
theorem ggX0_at_X0_isBlock : GoodIn wsX0_at wsX0_isBlock := goodIn_r _ [6, 7, 8, 15, 16, 17, 18, 19, 20] (by decide +kernel) (by decide +kernel)
set_option maxRecDepth 20000 in
theorem gX0_at_X0_isBlock : GoodIn wsX0_at (wsV RX0 33 RX0 yX0_isBlock wsX0_isBlock) := goodIn_app (goodIn_of _ (by decide +kernel)) ggX0_at_X0_isBlock
set_option maxRecDepth 20000 in
theorem ggX0_at_X0_isPlace : GoodIn wsX0_at wsX0_isPlace := goodIn_r _ [11] (by decide +kernel) (by decide +kernel)
set_option maxRecDepth 20000 in
theorem gX0_at_X0_isPlace : GoodIn wsX0_at (va_wsS RX0 37 yX0_isPlace wsX0_isPlace) := goodIn_app (goodIn_of _ (by decide +kernel)) ggX0_at_X0_isPlace
set_option maxRecDepth 20000 in
theorem ggX0_at_X0_blockStart : GoodIn wsX0_at wsX0_blockStart := goodIn_r _ [14] (by decide +kernel) (by decide +kernel)
set_option maxRecDepth 20000 in
theorem gX0_at_X0_blockStart : GoodIn wsX0_at (va_wsS RX0 53 yX0_blockStart wsX0_blockStart) := goodIn_app (goodIn_of _ (by decide +kernel)) ggX0_at_X0_blockStart
theorem dX0_at_0 : decode cX0_at 0 = .ok (.aload_n 0, 1) := by decide +kernel
theorem dX0_at_1 : decode cX0_at 1 = .ok (.iload_n 1, 1) := by decide +kernel
theorem dX0_at_2 : decode cX0_at 2 = .ok (.iload_n 2, 1) := by decide +kernel
theorem dX0_at_3 : decode cX0_at 3 = .ok (.invokevirtual 33, 3) := by decide +kernel
theorem dX0_at_6 : decode cX0_at 6 = .ok (.ifCond .eq 10, 3) := by decide +kernel
theorem dX0_at_9 : decode cX0_at 9 = .ok (.iload_n 3, 1) := by decide +kernel
theorem dX0_at_10 : decode cX0_at 10 = .ok (.invokestatic 37, 3) := by decide +kernel
theorem dX0_at_13 : decode cX0_at 13 = .ok (.ifCond .ne 5, 3) := by decide +kernel
theorem dX0_at_16 : decode cX0_at 16 = .ok (.iconst 0, 1) := by decide +kernel
theorem dX0_at_17 : decode cX0_at 17 = .ok (.ireturn, 1) := by decide +kernel
theorem dX0_at_18 : decode cX0_at 18 = .ok (.aload_n 0, 1) := by decide +kernel
theorem dX0_at_19 : decode cX0_at 19 = .ok (.getfield 26, 3) := by decide +kernel
theorem dX0_at_22 : decode cX0_at 22 = .ok (.iload_n 1, 1) := by decide +kernel
theorem dX0_at_23 : decode cX0_at 23 = .ok (.iload_n 2, 1) := by decide +kernel
theorem dX0_at_24 : decode cX0_at 24 = .ok (.invokestatic 53, 3) := by decide +kernel
theorem dX0_at_27 : decode cX0_at 27 = .ok (.iload_n 3, 1) := by decide +kernel
theorem dX0_at_28 : decode cX0_at 28 = .ok (.iadd, 1) := by decide +kernel
theorem dX0_at_29 : decode cX0_at 29 = .ok (.iaload, 1) := by decide +kernel
theorem dX0_at_30 : decode cX0_at 30 = .ok (.ireturn, 1) := by decide +kernel
set_option maxRecDepth 20000 in
theorem ggX0_four_X0_isBlock : GoodIn wsX0_four wsX0_isBlock := goodIn_r _ [7, 8, 9, 13, 14, 15, 16, 17, 18] (by decide +kernel) (by decide +kernel)
set_option maxRecDepth 20000 in
theorem gX0_four_X0_isBlock : GoodIn wsX0_four (wsV RX0 33 RX0 yX0_isBlock wsX0_isBlock) := goodIn_app (goodIn_of _ (by decide +kernel)) ggX0_four_X0_isBlock
set_option maxRecDepth 20000 in
theorem ggX0_four_X0_blockStart : GoodIn wsX0_four wsX0_blockStart := goodIn_r _ [12] (by decide +kernel) (by decide +kernel)
set_option maxRecDepth 20000 in
theorem gX0_four_X0_blockStart : GoodIn wsX0_four (va_wsS RX0 53 yX0_blockStart wsX0_blockStart) := goodIn_app (goodIn_of _ (by decide +kernel)) ggX0_four_X0_blockStart
theorem dX0_four_0 : decode cX0_four 0 = .ok (.aload_n 0, 1) := by decide +kernel
theorem dX0_four_1 : decode cX0_four 1 = .ok (.iload_n 1, 1) := by decide +kernel
theorem dX0_four_2 : decode cX0_four 2 = .ok (.iload_n 2, 1) := by decide +kernel
theorem dX0_four_3 : decode cX0_four 3 = .ok (.invokevirtual 33, 3) := by decide +kernel
theorem dX0_four_6 : decode cX0_four 6 = .ok (.ifCond .eq 24, 3) := by decide +kernel
theorem dX0_four_9 : decode cX0_four 9 = .ok (.iload_n 3, 1) := by decide +kernel
theorem dX0_four_10 : decode cX0_four 10 = .ok (.ifCond .lt 20, 3) := by decide +kernel
theorem dX0_four_13 : decode cX0_four 13 = .ok (.iload_n 3, 1) := by decide +kernel
theorem dX0_four_14 : decode cX0_four 14 = .ok (.bipush 8, 2) := by decide +kernel
theorem dX0_four_16 : decode cX0_four 16 = .ok (.if_icmp .ge 14, 3) := by decide +kernel
theorem dX0_four_19 : decode cX0_four 19 = .ok (.iload 4, 2) := by decide +kernel
theorem dX0_four_21 : decode cX0_four 21 = .ok (.ifCond .lt 9, 3) := by decide +kernel
theorem dX0_four_24 : decode cX0_four 24 = .ok (.iload 4, 2) := by decide +kernel
theorem dX0_four_26 : decode cX0_four 26 = .ok (.iconst 1, 1) := by decide +kernel
theorem dX0_four_27 : decode cX0_four 27 = .ok (.if_icmp .le 5, 3) := by decide +kernel
theorem dX0_four_30 : decode cX0_four 30 = .ok (.lconst 0, 1) := by decide +kernel
theorem dX0_four_31 : decode cX0_four 31 = .ok (.lreturn, 1) := by decide +kernel
theorem dX0_four_32 : decode cX0_four 32 = .ok (.iload_n 1, 1) := by decide +kernel
theorem dX0_four_33 : decode cX0_four 33 = .ok (.iload_n 2, 1) := by decide +kernel
theorem dX0_four_34 : decode cX0_four 34 = .ok (.invokestatic 53, 3) := by decide +kernel
theorem dX0_four_37 : decode cX0_four 37 = .ok (.bipush 8, 2) := by decide +kernel
theorem dX0_four_39 : decode cX0_four 39 = .ok (.iload_n 3, 1) := by decide +kernel
theorem dX0_four_40 : decode cX0_four 40 = .ok (.imul, 1) := by decide +kernel
theorem dX0_four_41 : decode cX0_four 41 = .ok (.iadd, 1) := by decide +kernel
theorem dX0_four_42 : decode cX0_four 42 = .ok (.iconst 4, 1) := by decide +kernel
theorem dX0_four_43 : decode cX0_four 43 = .ok (.iload 4, 2) := by decide +kernel
theorem dX0_four_45 : decode cX0_four 45 = .ok (.imul, 1) := by decide +kernel
theorem dX0_four_46 : decode cX0_four 46 = .ok (.iadd, 1) := by decide +kernel
theorem dX0_four_47 : decode cX0_four 47 = .ok (.istore 5, 2) := by decide +kernel
theorem dX0_four_49 : decode cX0_four 49 = .ok (.lconst 0, 1) := by decide +kernel
theorem dX0_four_50 : decode cX0_four 50 = .ok (.lstore 6, 2) := by decide +kernel
theorem dX0_four_52 : decode cX0_four 52 = .ok (.iload 5, 2) := by decide +kernel
theorem dX0_four_54 : decode cX0_four 54 = .ok (.istore 8, 2) := by decide +kernel
theorem dX0_four_56 : decode cX0_four 56 = .ok (.iload 8, 2) := by decide +kernel
theorem dX0_four_58 : decode cX0_four 58 = .ok (.iload 5, 2) := by decide +kernel
theorem dX0_four_60 : decode cX0_four 60 = .ok (.iconst 4, 1) := by decide +kernel
theorem dX0_four_61 : decode cX0_four 61 = .ok (.iadd, 1) := by decide +kernel
theorem dX0_four_62 : decode cX0_four 62 = .ok (.if_icmp .ge 28, 3) := by decide +kernel
theorem dX0_four_65 : decode cX0_four 65 = .ok (.lload 6, 2) := by decide +kernel
theorem dX0_four_67 : decode cX0_four 67 = .ok (.bipush 16, 2) := by decide +kernel
theorem dX0_four_69 : decode cX0_four 69 = .ok (.lshl, 1) := by decide +kernel
theorem dX0_four_70 : decode cX0_four 70 = .ok (.aload_n 0, 1) := by decide +kernel
theorem dX0_four_71 : decode cX0_four 71 = .ok (.getfield 26, 3) := by decide +kernel
theorem dX0_four_74 : decode cX0_four 74 = .ok (.iload 8, 2) := by decide +kernel
theorem dX0_four_76 : decode cX0_four 76 = .ok (.iaload, 1) := by decide +kernel
theorem dX0_four_77 : decode cX0_four 77 = .ok (.ldc 97, 2) := by decide +kernel
theorem dX0_four_79 : decode cX0_four 79 = .ok (.iand, 1) := by decide +kernel
theorem dX0_four_80 : decode cX0_four 80 = .ok (.i2l, 1) := by decide +kernel
theorem dX0_four_81 : decode cX0_four 81 = .ok (.lor, 1) := by decide +kernel
theorem dX0_four_82 : decode cX0_four 82 = .ok (.lstore 6, 2) := by decide +kernel
theorem dX0_four_84 : decode cX0_four 84 = .ok (.iinc 8 1, 3) := by decide +kernel
theorem dX0_four_87 : decode cX0_four 87 = .ok (.goto (-31), 3) := by decide +kernel
theorem dX0_four_90 : decode cX0_four 90 = .ok (.lload 6, 2) := by decide +kernel
theorem dX0_four_92 : decode cX0_four 92 = .ok (.lreturn, 1) := by decide +kernel
set_option maxRecDepth 20000 in
theorem ggX0_look_X0_countNotZero : GoodIn wsX0_look wsX0_countNotZero := goodIn_r _ [9, 2, 1, 10, 11, 12, 8, 13, 25, 26, 27, 28, 29, 30] (by decide +kernel) (by decide +kernel)
set_option maxRecDepth 20000 in
theorem gX0_look_X0_countNotZero : GoodIn wsX0_look (wsV RX0 100 RX0 yX0_countNotZero wsX0_countNotZero) := goodIn_app (goodIn_of _ (by decide +kernel)) ggX0_look_X0_countNotZero
set_option maxRecDepth 20000 in
theorem ggX0_look_X0_greatestSize : GoodIn wsX0_look wsX0_greatestSize := goodIn_r _ [17, 2, 1, 10, 18, 19, 20, 21, 22, 23, 24, 11, 12, 8, 13, 25, 26, 27, 28, 29, 30] (by decide +kernel) (by decide +kernel)
set_option maxRecDepth 20000 in
theorem gX0_look_X0_greatestSize : GoodIn wsX0_look (wsV RX0 104 RX0 yX0_greatestSize wsX0_greatestSize) := goodIn_app (goodIn_of _ (by decide +kernel)) ggX0_look_X0_greatestSize
theorem dX0_look_0 : decode cX0_look 0 = .ok (.iload_n 1, 1) := by decide +kernel
theorem dX0_look_1 : decode cX0_look 1 = .ok (.tableswitch 69 0 5 #[39, 44, 49, 54, 59, 64], 39) := by decide +kernel
theorem dX0_look_40 : decode cX0_look 40 = .ok (.aload_n 0, 1) := by decide +kernel
theorem dX0_look_41 : decode cX0_look 41 = .ok (.getfield 13, 3) := by decide +kernel
theorem dX0_look_44 : decode cX0_look 44 = .ok (.ireturn, 1) := by decide +kernel
theorem dX0_look_45 : decode cX0_look 45 = .ok (.aload_n 0, 1) := by decide +kernel
theorem dX0_look_46 : decode cX0_look 46 = .ok (.getfield 17, 3) := by decide +kernel
theorem dX0_look_49 : decode cX0_look 49 = .ok (.ireturn, 1) := by decide +kernel
theorem dX0_look_50 : decode cX0_look 50 = .ok (.aload_n 0, 1) := by decide +kernel
theorem dX0_look_51 : decode cX0_look 51 = .ok (.invokevirtual 100, 3) := by decide +kernel
theorem dX0_look_54 : decode cX0_look 54 = .ok (.ireturn, 1) := by decide +kernel
theorem dX0_look_55 : decode cX0_look 55 = .ok (.aload_n 0, 1) := by decide +kernel
theorem dX0_look_56 : decode cX0_look 56 = .ok (.invokevirtual 104, 3) := by decide +kernel
theorem dX0_look_59 : decode cX0_look 59 = .ok (.ireturn, 1) := by decide +kernel
theorem dX0_look_60 : decode cX0_look 60 = .ok (.aload_n 0, 1) := by decide +kernel
theorem dX0_look_61 : decode cX0_look 61 = .ok (.getfield 20, 3) := by decide +kernel
theorem dX0_look_64 : decode cX0_look 64 = .ok (.ireturn, 1) := by decide +kernel
theorem dX0_look_65 : decode cX0_look 65 = .ok (.aload_n 0, 1) := by decide +kernel
theorem dX0_look_66 : decode cX0_look 66 = .ok (.getfield 23, 3) := by decide +kernel
theorem dX0_look_69 : decode cX0_look 69 = .ok (.ireturn, 1) := by decide +kernel
theorem dX0_look_70 : decode cX0_look 70 = .ok (.iconst (-1), 1) := by decide +kernel
theorem dX0_look_71 : decode cX0_look 71 = .ok (.ireturn, 1) := by decide +kernel
theorem dX0_nearestSize_0 : decode cX0_nearestSize 0 = .ok (.iconst 1, 1) := by decide +kernel
theorem dX0_nearestSize_1 : decode cX0_nearestSize 1 = .ok (.bipush 8, 2) := by decide +kernel
theorem dX0_nearestSize_3 : decode cX0_nearestSize 3 = .ok (.iload_n 0, 1) := by decide +kernel
theorem dX0_nearestSize_4 : decode cX0_nearestSize 4 = .ok (.invokestatic 107, 3) := by decide +kernel
theorem dX0_nearestSize_7 : decode cX0_nearestSize 7 = .ok (.invokestatic 61, 3) := by decide +kernel
theorem dX0_nearestSize_10 : decode cX0_nearestSize 10 = .ok (.ireturn, 1) := by decide +kernel
theorem dX0_isPlace_0 : decode cX0_isPlace 0 = .ok (.iload_n 0, 1) := by decide +kernel
theorem dX0_isPlace_1 : decode cX0_isPlace 1 = .ok (.ifCond .lt 13, 3) := by decide +kernel
theorem dX0_isPlace_4 : decode cX0_isPlace 4 = .ok (.iload_n 0, 1) := by decide +kernel
theorem dX0_isPlace_5 : decode cX0_isPlace 5 = .ok (.bipush 64, 2) := by decide +kernel
theorem dX0_isPlace_7 : decode cX0_isPlace 7 = .ok (.if_icmp .ge 7, 3) := by decide +kernel
theorem dX0_isPlace_10 : decode cX0_isPlace 10 = .ok (.iconst 1, 1) := by decide +kernel
theorem dX0_isPlace_11 : decode cX0_isPlace 11 = .ok (.goto 4, 3) := by decide +kernel
theorem dX0_isPlace_14 : decode cX0_isPlace 14 = .ok (.iconst 0, 1) := by decide +kernel
theorem dX0_isPlace_15 : decode cX0_isPlace 15 = .ok (.ireturn, 1) := by decide +kernel
theorem dX0_isBlock_0 : decode cX0_isBlock 0 = .ok (.iload_n 1, 1) := by decide +kernel
theorem dX0_isBlock_1 : decode cX0_isBlock 1 = .ok (.ifCond .lt 27, 3) := by decide +kernel
theorem dX0_isBlock_4 : decode cX0_isBlock 4 = .ok (.iload_n 1, 1) := by decide +kernel
theorem dX0_isBlock_5 : decode cX0_isBlock 5 = .ok (.aload_n 0, 1) := by decide +kernel
theorem dX0_isBlock_6 : decode cX0_isBlock 6 = .ok (.getfield 13, 3) := by decide +kernel
theorem dX0_isBlock_9 : decode cX0_isBlock 9 = .ok (.if_icmp .ge 19, 3) := by decide +kernel
theorem dX0_isBlock_12 : decode cX0_isBlock 12 = .ok (.iload_n 2, 1) := by decide +kernel
theorem dX0_isBlock_13 : decode cX0_isBlock 13 = .ok (.ifCond .lt 15, 3) := by decide +kernel
theorem dX0_isBlock_16 : decode cX0_isBlock 16 = .ok (.iload_n 2, 1) := by decide +kernel
theorem dX0_isBlock_17 : decode cX0_isBlock 17 = .ok (.aload_n 0, 1) := by decide +kernel
theorem dX0_isBlock_18 : decode cX0_isBlock 18 = .ok (.getfield 17, 3) := by decide +kernel
theorem dX0_isBlock_21 : decode cX0_isBlock 21 = .ok (.if_icmp .ge 7, 3) := by decide +kernel
theorem dX0_isBlock_24 : decode cX0_isBlock 24 = .ok (.iconst 1, 1) := by decide +kernel
theorem dX0_isBlock_25 : decode cX0_isBlock 25 = .ok (.goto 4, 3) := by decide +kernel
theorem dX0_isBlock_28 : decode cX0_isBlock 28 = .ok (.iconst 0, 1) := by decide +kernel
theorem dX0_isBlock_29 : decode cX0_isBlock 29 = .ok (.ireturn, 1) := by decide +kernel
theorem dX0_blockStart_0 : decode cX0_blockStart 0 = .ok (.bipush 64, 2) := by decide +kernel
theorem dX0_blockStart_2 : decode cX0_blockStart 2 = .ok (.bipush 8, 2) := by decide +kernel
theorem dX0_blockStart_4 : decode cX0_blockStart 4 = .ok (.iload_n 1, 1) := by decide +kernel
theorem dX0_blockStart_5 : decode cX0_blockStart 5 = .ok (.imul, 1) := by decide +kernel
theorem dX0_blockStart_6 : decode cX0_blockStart 6 = .ok (.iload_n 0, 1) := by decide +kernel
theorem dX0_blockStart_7 : decode cX0_blockStart 7 = .ok (.iadd, 1) := by decide +kernel
theorem dX0_blockStart_8 : decode cX0_blockStart 8 = .ok (.imul, 1) := by decide +kernel
theorem dX0_blockStart_9 : decode cX0_blockStart 9 = .ok (.ireturn, 1) := by decide +kernel
theorem dX0_fillBlock_0 : decode cX0_fillBlock 0 = .ok (.iload_n 1, 1) := by decide +kernel
theorem dX0_fillBlock_1 : decode cX0_fillBlock 1 = .ok (.istore_n 3, 1) := by decide +kernel
theorem dX0_fillBlock_2 : decode cX0_fillBlock 2 = .ok (.iload_n 3, 1) := by decide +kernel
theorem dX0_fillBlock_3 : decode cX0_fillBlock 3 = .ok (.iload_n 1, 1) := by decide +kernel
theorem dX0_fillBlock_4 : decode cX0_fillBlock 4 = .ok (.bipush 64, 2) := by decide +kernel
theorem dX0_fillBlock_6 : decode cX0_fillBlock 6 = .ok (.iadd, 1) := by decide +kernel
theorem dX0_fillBlock_7 : decode cX0_fillBlock 7 = .ok (.if_icmp .ge 39, 3) := by decide +kernel
theorem dX0_fillBlock_10 : decode cX0_fillBlock 10 = .ok (.iload_n 2, 1) := by decide +kernel
theorem dX0_fillBlock_11 : decode cX0_fillBlock 11 = .ok (.iload_n 3, 1) := by decide +kernel
theorem dX0_fillBlock_12 : decode cX0_fillBlock 12 = .ok (.ldc 110, 2) := by decide +kernel
theorem dX0_fillBlock_14 : decode cX0_fillBlock 14 = .ok (.imul, 1) := by decide +kernel
theorem dX0_fillBlock_15 : decode cX0_fillBlock 15 = .ok (.iadd, 1) := by decide +kernel
theorem dX0_fillBlock_16 : decode cX0_fillBlock 16 = .ok (.ldc 111, 2) := by decide +kernel
theorem dX0_fillBlock_18 : decode cX0_fillBlock 18 = .ok (.imul, 1) := by decide +kernel
theorem dX0_fillBlock_19 : decode cX0_fillBlock 19 = .ok (.istore 4, 2) := by decide +kernel
theorem dX0_fillBlock_21 : decode cX0_fillBlock 21 = .ok (.aload_n 0, 1) := by decide +kernel
theorem dX0_fillBlock_22 : decode cX0_fillBlock 22 = .ok (.getfield 26, 3) := by decide +kernel
theorem dX0_fillBlock_25 : decode cX0_fillBlock 25 = .ok (.iload_n 3, 1) := by decide +kernel
theorem dX0_fillBlock_26 : decode cX0_fillBlock 26 = .ok (.iload 4, 2) := by decide +kernel
theorem dX0_fillBlock_28 : decode cX0_fillBlock 28 = .ok (.bipush 20, 2) := by decide +kernel
theorem dX0_fillBlock_30 : decode cX0_fillBlock 30 = .ok (.iushr, 1) := by decide +kernel
theorem dX0_fillBlock_31 : decode cX0_fillBlock 31 = .ok (.sipush 2047, 3) := by decide +kernel
theorem dX0_fillBlock_34 : decode cX0_fillBlock 34 = .ok (.irem, 1) := by decide +kernel
theorem dX0_fillBlock_35 : decode cX0_fillBlock 35 = .ok (.sipush 1023, 3) := by decide +kernel
theorem dX0_fillBlock_38 : decode cX0_fillBlock 38 = .ok (.isub, 1) := by decide +kernel
theorem dX0_fillBlock_39 : decode cX0_fillBlock 39 = .ok (.iastore, 1) := by decide +kernel
theorem dX0_fillBlock_40 : decode cX0_fillBlock 40 = .ok (.iinc 3 1, 3) := by decide +kernel
theorem dX0_fillBlock_43 : decode cX0_fillBlock 43 = .ok (.goto (-41), 3) := by decide +kernel
theorem dX0_fillBlock_46 : decode cX0_fillBlock 46 = .ok (.return_, 1) := by decide +kernel
set_option maxRecDepth 20000 in
theorem ggX0_exchangeAcrossDiagonal_X0_blockStart : GoodIn wsX0_exchangeAcrossDiagonal wsX0_blockStart := goodIn_r _ [4] (by decide +kernel) (by decide +kernel)
set_option maxRecDepth 20000 in
theorem gX0_exchangeAcrossDiagonal_X0_blockStart : GoodIn wsX0_exchangeAcrossDiagonal (va_wsS RX0 53 yX0_blockStart wsX0_blockStart) := goodIn_app (goodIn_of _ (by decide +kernel)) ggX0_exchangeAcrossDiagonal_X0_blockStart
set_option maxRecDepth 20000 in
theorem ggX0_exchangeAcrossDiagonal_X0_exchangeBlocks : GoodIn wsX0_exchangeAcrossDiagonal wsX0_exchangeBlocks := goodIn_r _ [8, 9, 10, 11, 3, 12, 13, 14, 15, 16, 17, 18, 19] (by decide +kernel) (by decide +kernel)
set_option maxRecDepth 20000 in
theorem gX0_exchangeAcrossDiagonal_X0_exchangeBlocks : GoodIn wsX0_exchangeAcrossDiagonal (wsV RX0 73 RX0 yX0_exchangeBlocks wsX0_exchangeBlocks) := goodIn_app (goodIn_of _ (by decide +kernel)) ggX0_exchangeAcrossDiagonal_X0_exchangeBlocks
theorem dX0_exchangeAcrossDiagonal_0 : decode cX0_exchangeAcrossDiagonal 0 = .ok (.iconst 1, 1) := by decide +kernel
theorem dX0_exchangeAcrossDiagonal_1 : decode cX0_exchangeAcrossDiagonal 1 = .ok (.istore_n 2, 1) := by decide +kernel
theorem dX0_exchangeAcrossDiagonal_2 : decode cX0_exchangeAcrossDiagonal 2 = .ok (.iload_n 2, 1) := by decide +kernel
theorem dX0_exchangeAcrossDiagonal_3 : decode cX0_exchangeAcrossDiagonal 3 = .ok (.iload_n 1, 1) := by decide +kernel
theorem dX0_exchangeAcrossDiagonal_4 : decode cX0_exchangeAcrossDiagonal 4 = .ok (.if_icmp .ge 36, 3) := by decide +kernel
theorem dX0_exchangeAcrossDiagonal_7 : decode cX0_exchangeAcrossDiagonal 7 = .ok (.iconst 0, 1) := by decide +kernel
theorem dX0_exchangeAcrossDiagonal_8 : decode cX0_exchangeAcrossDiagonal 8 = .ok (.istore_n 3, 1) := by decide +kernel
theorem dX0_exchangeAcrossDiagonal_9 : decode cX0_exchangeAcrossDiagonal 9 = .ok (.iload_n 3, 1) := by decide +kernel
theorem dX0_exchangeAcrossDiagonal_10 : decode cX0_exchangeAcrossDiagonal 10 = .ok (.iload_n 2, 1) := by decide +kernel
theorem dX0_exchangeAcrossDiagonal_11 : decode cX0_exchangeAcrossDiagonal 11 = .ok (.if_icmp .ge 23, 3) := by decide +kernel
theorem dX0_exchangeAcrossDiagonal_14 : decode cX0_exchangeAcrossDiagonal 14 = .ok (.aload_n 0, 1) := by decide +kernel
theorem dX0_exchangeAcrossDiagonal_15 : decode cX0_exchangeAcrossDiagonal 15 = .ok (.iload_n 3, 1) := by decide +kernel
theorem dX0_exchangeAcrossDiagonal_16 : decode cX0_exchangeAcrossDiagonal 16 = .ok (.iload_n 2, 1) := by decide +kernel
theorem dX0_exchangeAcrossDiagonal_17 : decode cX0_exchangeAcrossDiagonal 17 = .ok (.invokestatic 53, 3) := by decide +kernel
theorem dX0_exchangeAcrossDiagonal_20 : decode cX0_exchangeAcrossDiagonal 20 = .ok (.iload_n 2, 1) := by decide +kernel
theorem dX0_exchangeAcrossDiagonal_21 : decode cX0_exchangeAcrossDiagonal 21 = .ok (.iload_n 3, 1) := by decide +kernel
theorem dX0_exchangeAcrossDiagonal_22 : decode cX0_exchangeAcrossDiagonal 22 = .ok (.invokestatic 53, 3) := by decide +kernel
theorem dX0_exchangeAcrossDiagonal_25 : decode cX0_exchangeAcrossDiagonal 25 = .ok (.invokevirtual 73, 3) := by decide +kernel
theorem dX0_exchangeAcrossDiagonal_28 : decode cX0_exchangeAcrossDiagonal 28 = .ok (.iinc 3 1, 3) := by decide +kernel
theorem dX0_exchangeAcrossDiagonal_31 : decode cX0_exchangeAcrossDiagonal 31 = .ok (.goto (-22), 3) := by decide +kernel
theorem dX0_exchangeAcrossDiagonal_34 : decode cX0_exchangeAcrossDiagonal 34 = .ok (.iinc 2 1, 3) := by decide +kernel
theorem dX0_exchangeAcrossDiagonal_37 : decode cX0_exchangeAcrossDiagonal 37 = .ok (.goto (-35), 3) := by decide +kernel
theorem dX0_exchangeAcrossDiagonal_40 : decode cX0_exchangeAcrossDiagonal 40 = .ok (.return_, 1) := by decide +kernel
set_option maxRecDepth 20000 in
theorem ggX0_exchangeBlocks_X0_exchangeCells : GoodIn wsX0_exchangeBlocks wsX0_exchangeCells := goodIn_r _ [5, 6, 7, 8, 9, 10, 11, 12] (by decide +kernel) (by decide +kernel)
set_option maxRecDepth 20000 in
theorem gX0_exchangeBlocks_X0_exchangeCells : GoodIn wsX0_exchangeBlocks (wsV RX0 112 RX0 yX0_exchangeCells wsX0_exchangeCells) := goodIn_app (goodIn_of _ (by decide +kernel)) ggX0_exchangeBlocks_X0_exchangeCells
theorem dX0_exchangeBlocks_0 : decode cX0_exchangeBlocks 0 = .ok (.iconst 0, 1) := by decide +kernel
theorem dX0_exchangeBlocks_1 : decode cX0_exchangeBlocks 1 = .ok (.istore_n 3, 1) := by decide +kernel
theorem dX0_exchangeBlocks_2 : decode cX0_exchangeBlocks 2 = .ok (.iload_n 3, 1) := by decide +kernel
theorem dX0_exchangeBlocks_3 : decode cX0_exchangeBlocks 3 = .ok (.bipush 64, 2) := by decide +kernel
theorem dX0_exchangeBlocks_5 : decode cX0_exchangeBlocks 5 = .ok (.if_icmp .ge 19, 3) := by decide +kernel
theorem dX0_exchangeBlocks_8 : decode cX0_exchangeBlocks 8 = .ok (.aload_n 0, 1) := by decide +kernel
theorem dX0_exchangeBlocks_9 : decode cX0_exchangeBlocks 9 = .ok (.iload_n 1, 1) := by decide +kernel
theorem dX0_exchangeBlocks_10 : decode cX0_exchangeBlocks 10 = .ok (.iload_n 3, 1) := by decide +kernel
theorem dX0_exchangeBlocks_11 : decode cX0_exchangeBlocks 11 = .ok (.iadd, 1) := by decide +kernel
theorem dX0_exchangeBlocks_12 : decode cX0_exchangeBlocks 12 = .ok (.iload_n 2, 1) := by decide +kernel
theorem dX0_exchangeBlocks_13 : decode cX0_exchangeBlocks 13 = .ok (.iload_n 3, 1) := by decide +kernel
theorem dX0_exchangeBlocks_14 : decode cX0_exchangeBlocks 14 = .ok (.iadd, 1) := by decide +kernel
theorem dX0_exchangeBlocks_15 : decode cX0_exchangeBlocks 15 = .ok (.invokevirtual 112, 3) := by decide +kernel
theorem dX0_exchangeBlocks_18 : decode cX0_exchangeBlocks 18 = .ok (.iinc 3 1, 3) := by decide +kernel
theorem dX0_exchangeBlocks_21 : decode cX0_exchangeBlocks 21 = .ok (.goto (-19), 3) := by decide +kernel
theorem dX0_exchangeBlocks_24 : decode cX0_exchangeBlocks 24 = .ok (.return_, 1) := by decide +kernel
set_option maxRecDepth 20000 in
theorem ggX0_transposeBlock_X0_exchangeCells : GoodIn wsX0_transposeBlock wsX0_exchangeCells := goodIn_r _ [5, 6, 7, 8, 9, 10, 11, 12] (by decide +kernel) (by decide +kernel)
set_option maxRecDepth 20000 in
theorem gX0_transposeBlock_X0_exchangeCells : GoodIn wsX0_transposeBlock (wsV RX0 112 RX0 yX0_exchangeCells wsX0_exchangeCells) := goodIn_app (goodIn_of _ (by decide +kernel)) ggX0_transposeBlock_X0_exchangeCells
theorem dX0_transposeBlock_0 : decode cX0_transposeBlock 0 = .ok (.iconst 1, 1) := by decide +kernel
theorem dX0_transposeBlock_1 : decode cX0_transposeBlock 1 = .ok (.istore_n 2, 1) := by decide +kernel
theorem dX0_transposeBlock_2 : decode cX0_transposeBlock 2 = .ok (.iload_n 2, 1) := by decide +kernel
theorem dX0_transposeBlock_3 : decode cX0_transposeBlock 3 = .ok (.bipush 8, 2) := by decide +kernel
theorem dX0_transposeBlock_5 : decode cX0_transposeBlock 5 = .ok (.if_icmp .ge 42, 3) := by decide +kernel
theorem dX0_transposeBlock_8 : decode cX0_transposeBlock 8 = .ok (.iconst 0, 1) := by decide +kernel
theorem dX0_transposeBlock_9 : decode cX0_transposeBlock 9 = .ok (.istore_n 3, 1) := by decide +kernel
theorem dX0_transposeBlock_10 : decode cX0_transposeBlock 10 = .ok (.iload_n 3, 1) := by decide +kernel
theorem dX0_transposeBlock_11 : decode cX0_transposeBlock 11 = .ok (.iload_n 2, 1) := by decide +kernel
theorem dX0_transposeBlock_12 : decode cX0_transposeBlock 12 = .ok (.if_icmp .ge 29, 3) := by decide +kernel
theorem dX0_transposeBlock_15 : decode cX0_transposeBlock 15 = .ok (.aload_n 0, 1) := by decide +kernel
theorem dX0_transposeBlock_16 : decode cX0_transposeBlock 16 = .ok (.iload_n 1, 1) := by decide +kernel
theorem dX0_transposeBlock_17 : decode cX0_transposeBlock 17 = .ok (.bipush 8, 2) := by decide +kernel
theorem dX0_transposeBlock_19 : decode cX0_transposeBlock 19 = .ok (.iload_n 2, 1) := by decide +kernel
theorem dX0_transposeBlock_20 : decode cX0_transposeBlock 20 = .ok (.imul, 1) := by decide +kernel
theorem dX0_transposeBlock_21 : decode cX0_transposeBlock 21 = .ok (.iadd, 1) := by decide +kernel
theorem dX0_transposeBlock_22 : decode cX0_transposeBlock 22 = .ok (.iload_n 3, 1) := by decide +kernel
theorem dX0_transposeBlock_23 : decode cX0_transposeBlock 23 = .ok (.iadd, 1) := by decide +kernel
theorem dX0_transposeBlock_24 : decode cX0_transposeBlock 24 = .ok (.iload_n 1, 1) := by decide +kernel
theorem dX0_transposeBlock_25 : decode cX0_transposeBlock 25 = .ok (.bipush 8, 2) := by decide +kernel
theorem dX0_transposeBlock_27 : decode cX0_transposeBlock 27 = .ok (.iload_n 3, 1) := by decide +kernel
theorem dX0_transposeBlock_28 : decode cX0_transposeBlock 28 = .ok (.imul, 1) := by decide +kernel
theorem dX0_transposeBlock_29 : decode cX0_transposeBlock 29 = .ok (.iadd, 1) := by decide +kernel
theorem dX0_transposeBlock_30 : decode cX0_transposeBlock 30 = .ok (.iload_n 2, 1) := by decide +kernel
theorem dX0_transposeBlock_31 : decode cX0_transposeBlock 31 = .ok (.iadd, 1) := by decide +kernel
theorem dX0_transposeBlock_32 : decode cX0_transposeBlock 32 = .ok (.invokevirtual 112, 3) := by decide +kernel
theorem dX0_transposeBlock_35 : decode cX0_transposeBlock 35 = .ok (.iinc 3 1, 3) := by decide +kernel
theorem dX0_transposeBlock_38 : decode cX0_transposeBlock 38 = .ok (.goto (-28), 3) := by decide +kernel
theorem dX0_transposeBlock_41 : decode cX0_transposeBlock 41 = .ok (.iinc 2 1, 3) := by decide +kernel
theorem dX0_transposeBlock_44 : decode cX0_transposeBlock 44 = .ok (.goto (-42), 3) := by decide +kernel
theorem dX0_transposeBlock_47 : decode cX0_transposeBlock 47 = .ok (.return_, 1) := by decide +kernel
theorem dX0_exchangeCells_0 : decode cX0_exchangeCells 0 = .ok (.aload_n 0, 1) := by decide +kernel
theorem dX0_exchangeCells_1 : decode cX0_exchangeCells 1 = .ok (.getfield 26, 3) := by decide +kernel
theorem dX0_exchangeCells_4 : decode cX0_exchangeCells 4 = .ok (.iload_n 1, 1) := by decide +kernel
theorem dX0_exchangeCells_5 : decode cX0_exchangeCells 5 = .ok (.iaload, 1) := by decide +kernel
theorem dX0_exchangeCells_6 : decode cX0_exchangeCells 6 = .ok (.istore_n 3, 1) := by decide +kernel
theorem dX0_exchangeCells_7 : decode cX0_exchangeCells 7 = .ok (.aload_n 0, 1) := by decide +kernel
theorem dX0_exchangeCells_8 : decode cX0_exchangeCells 8 = .ok (.getfield 26, 3) := by decide +kernel
theorem dX0_exchangeCells_11 : decode cX0_exchangeCells 11 = .ok (.iload_n 1, 1) := by decide +kernel
theorem dX0_exchangeCells_12 : decode cX0_exchangeCells 12 = .ok (.aload_n 0, 1) := by decide +kernel
theorem dX0_exchangeCells_13 : decode cX0_exchangeCells 13 = .ok (.getfield 26, 3) := by decide +kernel
theorem dX0_exchangeCells_16 : decode cX0_exchangeCells 16 = .ok (.iload_n 2, 1) := by decide +kernel
theorem dX0_exchangeCells_17 : decode cX0_exchangeCells 17 = .ok (.iaload, 1) := by decide +kernel
theorem dX0_exchangeCells_18 : decode cX0_exchangeCells 18 = .ok (.iastore, 1) := by decide +kernel
theorem dX0_exchangeCells_19 : decode cX0_exchangeCells 19 = .ok (.aload_n 0, 1) := by decide +kernel
theorem dX0_exchangeCells_20 : decode cX0_exchangeCells 20 = .ok (.getfield 26, 3) := by decide +kernel
theorem dX0_exchangeCells_23 : decode cX0_exchangeCells 23 = .ok (.iload_n 2, 1) := by decide +kernel
theorem dX0_exchangeCells_24 : decode cX0_exchangeCells 24 = .ok (.iload_n 3, 1) := by decide +kernel
theorem dX0_exchangeCells_25 : decode cX0_exchangeCells 25 = .ok (.iastore, 1) := by decide +kernel
theorem dX0_exchangeCells_26 : decode cX0_exchangeCells 26 = .ok (.return_, 1) := by decide +kernel
set_option maxRecDepth 20000 in
theorem ggX0_negatePlaces_X0_blockStart : GoodIn wsX0_negatePlaces wsX0_blockStart := goodIn_r _ [7] (by decide +kernel) (by decide +kernel)
set_option maxRecDepth 20000 in
theorem gX0_negatePlaces_X0_blockStart : GoodIn wsX0_negatePlaces (va_wsS RX0 53 yX0_blockStart wsX0_blockStart) := goodIn_app (goodIn_of _ (by decide +kernel)) ggX0_negatePlaces_X0_blockStart
theorem dX0_negatePlaces_0 : decode cX0_negatePlaces 0 = .ok (.iconst 0, 1) := by decide +kernel
theorem dX0_negatePlaces_1 : decode cX0_negatePlaces 1 = .ok (.istore_n 2, 1) := by decide +kernel
theorem dX0_negatePlaces_2 : decode cX0_negatePlaces 2 = .ok (.iload_n 2, 1) := by decide +kernel
theorem dX0_negatePlaces_3 : decode cX0_negatePlaces 3 = .ok (.aload_n 0, 1) := by decide +kernel
theorem dX0_negatePlaces_4 : decode cX0_negatePlaces 4 = .ok (.getfield 17, 3) := by decide +kernel
theorem dX0_negatePlaces_7 : decode cX0_negatePlaces 7 = .ok (.if_icmp .ge 59, 3) := by decide +kernel
theorem dX0_negatePlaces_10 : decode cX0_negatePlaces 10 = .ok (.aload_n 0, 1) := by decide +kernel
theorem dX0_negatePlaces_11 : decode cX0_negatePlaces 11 = .ok (.getfield 13, 3) := by decide +kernel
theorem dX0_negatePlaces_14 : decode cX0_negatePlaces 14 = .ok (.iload_n 2, 1) := by decide +kernel
theorem dX0_negatePlaces_15 : decode cX0_negatePlaces 15 = .ok (.invokestatic 53, 3) := by decide +kernel
theorem dX0_negatePlaces_18 : decode cX0_negatePlaces 18 = .ok (.istore_n 3, 1) := by decide +kernel
theorem dX0_negatePlaces_19 : decode cX0_negatePlaces 19 = .ok (.iconst 0, 1) := by decide +kernel
theorem dX0_negatePlaces_20 : decode cX0_negatePlaces 20 = .ok (.iload_n 2, 1) := by decide +kernel
theorem dX0_negatePlaces_21 : decode cX0_negatePlaces 21 = .ok (.invokestatic 53, 3) := by decide +kernel
theorem dX0_negatePlaces_24 : decode cX0_negatePlaces 24 = .ok (.istore 4, 2) := by decide +kernel
theorem dX0_negatePlaces_26 : decode cX0_negatePlaces 26 = .ok (.iload 4, 2) := by decide +kernel
theorem dX0_negatePlaces_28 : decode cX0_negatePlaces 28 = .ok (.iload_n 3, 1) := by decide +kernel
theorem dX0_negatePlaces_29 : decode cX0_negatePlaces 29 = .ok (.if_icmp .ge 31, 3) := by decide +kernel
theorem dX0_negatePlaces_32 : decode cX0_negatePlaces 32 = .ok (.iload 4, 2) := by decide +kernel
theorem dX0_negatePlaces_34 : decode cX0_negatePlaces 34 = .ok (.iload_n 1, 1) := by decide +kernel
theorem dX0_negatePlaces_35 : decode cX0_negatePlaces 35 = .ok (.iand, 1) := by decide +kernel
theorem dX0_negatePlaces_36 : decode cX0_negatePlaces 36 = .ok (.ifCond .eq 18, 3) := by decide +kernel
theorem dX0_negatePlaces_39 : decode cX0_negatePlaces 39 = .ok (.aload_n 0, 1) := by decide +kernel
theorem dX0_negatePlaces_40 : decode cX0_negatePlaces 40 = .ok (.getfield 26, 3) := by decide +kernel
theorem dX0_negatePlaces_43 : decode cX0_negatePlaces 43 = .ok (.iload 4, 2) := by decide +kernel
theorem dX0_negatePlaces_45 : decode cX0_negatePlaces 45 = .ok (.aload_n 0, 1) := by decide +kernel
theorem dX0_negatePlaces_46 : decode cX0_negatePlaces 46 = .ok (.getfield 26, 3) := by decide +kernel
theorem dX0_negatePlaces_49 : decode cX0_negatePlaces 49 = .ok (.iload 4, 2) := by decide +kernel
theorem dX0_negatePlaces_51 : decode cX0_negatePlaces 51 = .ok (.iaload, 1) := by decide +kernel
theorem dX0_negatePlaces_52 : decode cX0_negatePlaces 52 = .ok (.ineg, 1) := by decide +kernel
theorem dX0_negatePlaces_53 : decode cX0_negatePlaces 53 = .ok (.iastore, 1) := by decide +kernel
theorem dX0_negatePlaces_54 : decode cX0_negatePlaces 54 = .ok (.iinc 4 1, 3) := by decide +kernel
theorem dX0_negatePlaces_57 : decode cX0_negatePlaces 57 = .ok (.goto (-31), 3) := by decide +kernel
theorem dX0_negatePlaces_60 : decode cX0_negatePlaces 60 = .ok (.iinc 2 1, 3) := by decide +kernel
theorem dX0_negatePlaces_63 : decode cX0_negatePlaces 63 = .ok (.goto (-61), 3) := by decide +kernel
theorem dX0_negatePlaces_66 : decode cX0_negatePlaces 66 = .ok (.return_, 1) := by decide +kernel
set_option maxRecDepth 20000 in
theorem ggX0_countNotZero_X0_blockStart : GoodIn wsX0_countNotZero wsX0_blockStart := goodIn_r _ [7] (by decide +kernel) (by decide +kernel)
set_option maxRecDepth 20000 in
theorem gX0_countNotZero_X0_blockStart : GoodIn wsX0_countNotZero (va_wsS RX0 53 yX0_blockStart wsX0_blockStart) := goodIn_app (goodIn_of _ (by decide +kernel)) ggX0_countNotZero_X0_blockStart
theorem dX0_countNotZero_0 : decode cX0_countNotZero 0 = .ok (.iconst 0, 1) := by decide +kernel
theorem dX0_countNotZero_1 : decode cX0_countNotZero 1 = .ok (.istore_n 1, 1) := by decide +kernel
theorem dX0_countNotZero_2 : decode cX0_countNotZero 2 = .ok (.iconst 0, 1) := by decide +kernel
theorem dX0_countNotZero_3 : decode cX0_countNotZero 3 = .ok (.istore_n 2, 1) := by decide +kernel
theorem dX0_countNotZero_4 : decode cX0_countNotZero 4 = .ok (.iload_n 2, 1) := by decide +kernel
theorem dX0_countNotZero_5 : decode cX0_countNotZero 5 = .ok (.aload_n 0, 1) := by decide +kernel
theorem dX0_countNotZero_6 : decode cX0_countNotZero 6 = .ok (.getfield 17, 3) := by decide +kernel
theorem dX0_countNotZero_9 : decode cX0_countNotZero 9 = .ok (.if_icmp .ge 50, 3) := by decide +kernel
theorem dX0_countNotZero_12 : decode cX0_countNotZero 12 = .ok (.aload_n 0, 1) := by decide +kernel
theorem dX0_countNotZero_13 : decode cX0_countNotZero 13 = .ok (.getfield 13, 3) := by decide +kernel
theorem dX0_countNotZero_16 : decode cX0_countNotZero 16 = .ok (.iload_n 2, 1) := by decide +kernel
theorem dX0_countNotZero_17 : decode cX0_countNotZero 17 = .ok (.invokestatic 53, 3) := by decide +kernel
theorem dX0_countNotZero_20 : decode cX0_countNotZero 20 = .ok (.istore_n 3, 1) := by decide +kernel
theorem dX0_countNotZero_21 : decode cX0_countNotZero 21 = .ok (.iconst 0, 1) := by decide +kernel
theorem dX0_countNotZero_22 : decode cX0_countNotZero 22 = .ok (.iload_n 2, 1) := by decide +kernel
theorem dX0_countNotZero_23 : decode cX0_countNotZero 23 = .ok (.invokestatic 53, 3) := by decide +kernel
theorem dX0_countNotZero_26 : decode cX0_countNotZero 26 = .ok (.istore 4, 2) := by decide +kernel
theorem dX0_countNotZero_28 : decode cX0_countNotZero 28 = .ok (.iload 4, 2) := by decide +kernel
theorem dX0_countNotZero_30 : decode cX0_countNotZero 30 = .ok (.iload_n 3, 1) := by decide +kernel
theorem dX0_countNotZero_31 : decode cX0_countNotZero 31 = .ok (.if_icmp .ge 22, 3) := by decide +kernel
theorem dX0_countNotZero_34 : decode cX0_countNotZero 34 = .ok (.aload_n 0, 1) := by decide +kernel
theorem dX0_countNotZero_35 : decode cX0_countNotZero 35 = .ok (.getfield 26, 3) := by decide +kernel
theorem dX0_countNotZero_38 : decode cX0_countNotZero 38 = .ok (.iload 4, 2) := by decide +kernel
theorem dX0_countNotZero_40 : decode cX0_countNotZero 40 = .ok (.iaload, 1) := by decide +kernel
theorem dX0_countNotZero_41 : decode cX0_countNotZero 41 = .ok (.ifCond .eq 6, 3) := by decide +kernel
theorem dX0_countNotZero_44 : decode cX0_countNotZero 44 = .ok (.iinc 1 1, 3) := by decide +kernel
theorem dX0_countNotZero_47 : decode cX0_countNotZero 47 = .ok (.iinc 4 1, 3) := by decide +kernel
theorem dX0_countNotZero_50 : decode cX0_countNotZero 50 = .ok (.goto (-22), 3) := by decide +kernel
theorem dX0_countNotZero_53 : decode cX0_countNotZero 53 = .ok (.iinc 2 1, 3) := by decide +kernel
theorem dX0_countNotZero_56 : decode cX0_countNotZero 56 = .ok (.goto (-52), 3) := by decide +kernel
theorem dX0_countNotZero_59 : decode cX0_countNotZero 59 = .ok (.iload_n 1, 1) := by decide +kernel
theorem dX0_countNotZero_60 : decode cX0_countNotZero 60 = .ok (.ireturn, 1) := by decide +kernel
set_option maxRecDepth 20000 in
theorem ggX0_greatestSize_X0_blockStart : GoodIn wsX0_greatestSize wsX0_blockStart := goodIn_r _ [14] (by decide +kernel) (by decide +kernel)
set_option maxRecDepth 20000 in
theorem gX0_greatestSize_X0_blockStart : GoodIn wsX0_greatestSize (va_wsS RX0 53 yX0_blockStart wsX0_blockStart) := goodIn_app (goodIn_of _ (by decide +kernel)) ggX0_greatestSize_X0_blockStart
theorem dX0_greatestSize_0 : decode cX0_greatestSize 0 = .ok (.iconst 0, 1) := by decide +kernel
theorem dX0_greatestSize_1 : decode cX0_greatestSize 1 = .ok (.istore_n 1, 1) := by decide +kernel
theorem dX0_greatestSize_2 : decode cX0_greatestSize 2 = .ok (.iconst 0, 1) := by decide +kernel
theorem dX0_greatestSize_3 : decode cX0_greatestSize 3 = .ok (.istore_n 2, 1) := by decide +kernel
theorem dX0_greatestSize_4 : decode cX0_greatestSize 4 = .ok (.iload_n 2, 1) := by decide +kernel
theorem dX0_greatestSize_5 : decode cX0_greatestSize 5 = .ok (.aload_n 0, 1) := by decide +kernel
theorem dX0_greatestSize_6 : decode cX0_greatestSize 6 = .ok (.getfield 17, 3) := by decide +kernel
theorem dX0_greatestSize_9 : decode cX0_greatestSize 9 = .ok (.if_icmp .ge 52, 3) := by decide +kernel
theorem dX0_greatestSize_12 : decode cX0_greatestSize 12 = .ok (.aload_n 0, 1) := by decide +kernel
theorem dX0_greatestSize_13 : decode cX0_greatestSize 13 = .ok (.getfield 13, 3) := by decide +kernel
theorem dX0_greatestSize_16 : decode cX0_greatestSize 16 = .ok (.iload_n 2, 1) := by decide +kernel
theorem dX0_greatestSize_17 : decode cX0_greatestSize 17 = .ok (.invokestatic 53, 3) := by decide +kernel
theorem dX0_greatestSize_20 : decode cX0_greatestSize 20 = .ok (.istore_n 3, 1) := by decide +kernel
theorem dX0_greatestSize_21 : decode cX0_greatestSize 21 = .ok (.iconst 0, 1) := by decide +kernel
theorem dX0_greatestSize_22 : decode cX0_greatestSize 22 = .ok (.iload_n 2, 1) := by decide +kernel
theorem dX0_greatestSize_23 : decode cX0_greatestSize 23 = .ok (.invokestatic 53, 3) := by decide +kernel
theorem dX0_greatestSize_26 : decode cX0_greatestSize 26 = .ok (.istore 4, 2) := by decide +kernel
theorem dX0_greatestSize_28 : decode cX0_greatestSize 28 = .ok (.iload 4, 2) := by decide +kernel
theorem dX0_greatestSize_30 : decode cX0_greatestSize 30 = .ok (.iload_n 3, 1) := by decide +kernel
theorem dX0_greatestSize_31 : decode cX0_greatestSize 31 = .ok (.if_icmp .ge 24, 3) := by decide +kernel
theorem dX0_greatestSize_34 : decode cX0_greatestSize 34 = .ok (.iload_n 1, 1) := by decide +kernel
theorem dX0_greatestSize_35 : decode cX0_greatestSize 35 = .ok (.aload_n 0, 1) := by decide +kernel
theorem dX0_greatestSize_36 : decode cX0_greatestSize 36 = .ok (.getfield 26, 3) := by decide +kernel
theorem dX0_greatestSize_39 : decode cX0_greatestSize 39 = .ok (.iload 4, 2) := by decide +kernel
theorem dX0_greatestSize_41 : decode cX0_greatestSize 41 = .ok (.iaload, 1) := by decide +kernel
theorem dX0_greatestSize_42 : decode cX0_greatestSize 42 = .ok (.invokestatic 115, 3) := by decide +kernel
theorem dX0_greatestSize_45 : decode cX0_greatestSize 45 = .ok (.invokestatic 61, 3) := by decide +kernel
theorem dX0_greatestSize_48 : decode cX0_greatestSize 48 = .ok (.istore_n 1, 1) := by decide +kernel
theorem dX0_greatestSize_49 : decode cX0_greatestSize 49 = .ok (.iinc 4 1, 3) := by decide +kernel
theorem dX0_greatestSize_52 : decode cX0_greatestSize 52 = .ok (.goto (-24), 3) := by decide +kernel
theorem dX0_greatestSize_55 : decode cX0_greatestSize 55 = .ok (.iinc 2 1, 3) := by decide +kernel
theorem dX0_greatestSize_58 : decode cX0_greatestSize 58 = .ok (.goto (-54), 3) := by decide +kernel
theorem dX0_greatestSize_61 : decode cX0_greatestSize 61 = .ok (.iload_n 1, 1) := by decide +kernel
theorem dX0_greatestSize_62 : decode cX0_greatestSize 62 = .ok (.ireturn, 1) := by decide +kernel
theorem dJ9_floorMod_7cf53_0 : decode cJ9_floorMod_7cf53 0 = .ok (.iload_n 0, 1) := by decide +kernel
theorem dJ9_floorMod_7cf53_1 : decode cJ9_floorMod_7cf53 1 = .ok (.iload_n 1, 1) := by decide +kernel
theorem dJ9_floorMod_7cf53_2 : decode cJ9_floorMod_7cf53 2 = .ok (.irem, 1) := by decide +kernel
theorem dJ9_floorMod_7cf53_3 : decode cJ9_floorMod_7cf53 3 = .ok (.istore_n 2, 1) := by decide +kernel
theorem dJ9_floorMod_7cf53_4 : decode cJ9_floorMod_7cf53 4 = .ok (.iload_n 0, 1) := by decide +kernel
theorem dJ9_floorMod_7cf53_5 : decode cJ9_floorMod_7cf53 5 = .ok (.iload_n 1, 1) := by decide +kernel
theorem dJ9_floorMod_7cf53_6 : decode cJ9_floorMod_7cf53 6 = .ok (.ixor, 1) := by decide +kernel
theorem dJ9_floorMod_7cf53_7 : decode cJ9_floorMod_7cf53 7 = .ok (.ifCond .ge 11, 3) := by decide +kernel
theorem dJ9_floorMod_7cf53_10 : decode cJ9_floorMod_7cf53 10 = .ok (.iload_n 2, 1) := by decide +kernel
theorem dJ9_floorMod_7cf53_11 : decode cJ9_floorMod_7cf53 11 = .ok (.ifCond .eq 7, 3) := by decide +kernel
theorem dJ9_floorMod_7cf53_14 : decode cJ9_floorMod_7cf53 14 = .ok (.iload_n 2, 1) := by decide +kernel
theorem dJ9_floorMod_7cf53_15 : decode cJ9_floorMod_7cf53 15 = .ok (.iload_n 1, 1) := by decide +kernel
theorem dJ9_floorMod_7cf53_16 : decode cJ9_floorMod_7cf53 16 = .ok (.iadd, 1) := by decide +kernel
theorem dJ9_floorMod_7cf53_17 : decode cJ9_floorMod_7cf53 17 = .ok (.ireturn, 1) := by decide +kernel
theorem dJ9_floorMod_7cf53_18 : decode cJ9_floorMod_7cf53 18 = .ok (.iload_n 2, 1) := by decide +kernel
theorem dJ9_floorMod_7cf53_19 : decode cJ9_floorMod_7cf53 19 = .ok (.ireturn, 1) := by decide +kernel
theorem dJ9_abs_0f7a4_0 : decode cJ9_abs_0f7a4 0 = .ok (.iload_n 0, 1) := by decide +kernel
theorem dJ9_abs_0f7a4_1 : decode cJ9_abs_0f7a4 1 = .ok (.ifCond .ge 8, 3) := by decide +kernel
theorem dJ9_abs_0f7a4_4 : decode cJ9_abs_0f7a4 4 = .ok (.iload_n 0, 1) := by decide +kernel
theorem dJ9_abs_0f7a4_5 : decode cJ9_abs_0f7a4 5 = .ok (.ineg, 1) := by decide +kernel
theorem dJ9_abs_0f7a4_6 : decode cJ9_abs_0f7a4 6 = .ok (.goto 4, 3) := by decide +kernel
theorem dJ9_abs_0f7a4_9 : decode cJ9_abs_0f7a4 9 = .ok (.iload_n 0, 1) := by decide +kernel
theorem dJ9_abs_0f7a4_10 : decode cJ9_abs_0f7a4 10 = .ok (.ireturn, 1) := by decide +kernel
theorem dJ9_max_7cf53_0 : decode cJ9_max_7cf53 0 = .ok (.iload_n 0, 1) := by decide +kernel
theorem dJ9_max_7cf53_1 : decode cJ9_max_7cf53 1 = .ok (.iload_n 1, 1) := by decide +kernel
theorem dJ9_max_7cf53_2 : decode cJ9_max_7cf53 2 = .ok (.if_icmp .lt 7, 3) := by decide +kernel
theorem dJ9_max_7cf53_5 : decode cJ9_max_7cf53 5 = .ok (.iload_n 0, 1) := by decide +kernel
theorem dJ9_max_7cf53_6 : decode cJ9_max_7cf53 6 = .ok (.goto 4, 3) := by decide +kernel
theorem dJ9_max_7cf53_9 : decode cJ9_max_7cf53 9 = .ok (.iload_n 1, 1) := by decide +kernel
theorem dJ9_max_7cf53_10 : decode cJ9_max_7cf53 10 = .ok (.ireturn, 1) := by decide +kernel
theorem dJ9_min_7cf53_0 : decode cJ9_min_7cf53 0 = .ok (.iload_n 0, 1) := by decide +kernel
theorem dJ9_min_7cf53_1 : decode cJ9_min_7cf53 1 = .ok (.iload_n 1, 1) := by decide +kernel
theorem dJ9_min_7cf53_2 : decode cJ9_min_7cf53 2 = .ok (.if_icmp .gt 7, 3) := by decide +kernel
theorem dJ9_min_7cf53_5 : decode cJ9_min_7cf53 5 = .ok (.iload_n 0, 1) := by decide +kernel
theorem dJ9_min_7cf53_6 : decode cJ9_min_7cf53 6 = .ok (.goto 4, 3) := by decide +kernel
theorem dJ9_min_7cf53_9 : decode cJ9_min_7cf53 9 = .ok (.iload_n 1, 1) := by decide +kernel
theorem dJ9_min_7cf53_10 : decode cJ9_min_7cf53 10 = .ok (.ireturn, 1) := by decide +kernel
theorem dL_cell_0 : decode cL_cell 0 = .ok (.iload_n 1, 1) := by decide +kernel
theorem dL_cell_1 : decode cL_cell 1 = .ok (.aload_n 0, 1) := by decide +kernel
theorem dL_cell_2 : decode cL_cell 2 = .ok (.arraylength, 1) := by decide +kernel
theorem dL_cell_3 : decode cL_cell 3 = .ok (.if_icmp .ge 9, 3) := by decide +kernel
theorem dL_cell_6 : decode cL_cell 6 = .ok (.aload_n 0, 1) := by decide +kernel
theorem dL_cell_7 : decode cL_cell 7 = .ok (.iload_n 1, 1) := by decide +kernel
theorem dL_cell_8 : decode cL_cell 8 = .ok (.iaload, 1) := by decide +kernel
theorem dL_cell_9 : decode cL_cell 9 = .ok (.goto 4, 3) := by decide +kernel
theorem dL_cell_12 : decode cL_cell 12 = .ok (.iconst 0, 1) := by decide +kernel
theorem dL_cell_13 : decode cL_cell 13 = .ok (.ireturn, 1) := by decide +kernel
set_option maxRecDepth 20000 in
theorem ggL_put_X0_put : GoodIn wsL_put wsX0_put := goodIn_ca (goodIn_ca (goodIn_r _ [7, 8, 9, 10, 11, 12, 13, 14, 15, 6, 16, 17, 18, 19, 20, 21, 22, 23, 24, 25, 26, 27, 28, 29, 30] (by decide +kernel) (by decide +kernel)) (goodIn_sub (fun _ h => List.mem_cons_of_mem _ (List.mem_append_left _ (List.mem_append_right _ h))) (by decide +kernel))) (goodIn_sub (fun _ h => List.mem_cons_of_mem _ (List.mem_append_right _ h)) (by decide +kernel))
set_option maxRecDepth 20000 in
theorem gL_put_X0_put : GoodIn wsL_put (wsV RL 7 RX0 yX0_put wsX0_put) := goodIn_app (goodIn_of _ (by decide +kernel)) ggL_put_X0_put
theorem dL_put_0 : decode cL_put 0 = .ok (.aload_n 0, 1) := by decide +kernel
theorem dL_put_1 : decode cL_put 1 = .ok (.iload_n 1, 1) := by decide +kernel
theorem dL_put_2 : decode cL_put 2 = .ok (.iload_n 2, 1) := by decide +kernel
theorem dL_put_3 : decode cL_put 3 = .ok (.iload_n 3, 1) := by decide +kernel
theorem dL_put_4 : decode cL_put 4 = .ok (.iload 4, 2) := by decide +kernel
theorem dL_put_6 : decode cL_put 6 = .ok (.invokevirtual 7, 3) := by decide +kernel
theorem dL_put_9 : decode cL_put 9 = .ok (.goto 11, 3) := by decide +kernel
theorem dL_put_12 : decode cL_put 12 = .ok (.astore 5, 2) := by decide +kernel
theorem dL_put_14 : decode cL_put 14 = .ok (.iconst 1, 1) := by decide +kernel
theorem dL_put_15 : decode cL_put 15 = .ok (.ireturn, 1) := by decide +kernel
theorem dL_put_16 : decode cL_put 16 = .ok (.astore 5, 2) := by decide +kernel
theorem dL_put_18 : decode cL_put 18 = .ok (.iconst 2, 1) := by decide +kernel
theorem dL_put_19 : decode cL_put 19 = .ok (.ireturn, 1) := by decide +kernel
theorem dL_put_20 : decode cL_put 20 = .ok (.iconst 0, 1) := by decide +kernel
theorem dL_put_21 : decode cL_put 21 = .ok (.ireturn, 1) := by decide +kernel
set_option maxRecDepth 20000 in
theorem ggL_law_L_cell : GoodIn wsL_law wsL_cell := goodIn_r _ [6] (by decide +kernel) (by decide +kernel)
set_option maxRecDepth 20000 in
theorem gL_law_L_cell : GoodIn wsL_law (va_wsS RL 21 yL_cell wsL_cell) := goodIn_app (goodIn_of _ (by decide +kernel)) ggL_law_L_cell
set_option maxRecDepth 20000 in
theorem ggL_law_X0_init : GoodIn wsL_law wsX0_init := goodIn_r _ [9, 10, 11, 12, 13, 14, 15, 16, 17, 18, 19, 20, 21, 2, 22, 23, 24, 25, 26, 27, 28, 29, 154, 155, 156, 157, 158, 159] (by decide +kernel) (by decide +kernel)
set_option maxRecDepth 20000 in
theorem gL_law_X0_init : GoodIn wsL_law (wsX0_init) := ggL_law_X0_init
set_option maxRecDepth 20000 in
theorem ggL_law_L_put : GoodIn wsL_law wsL_put := goodIn_ca (goodIn_ca (goodIn_r _ [32, 33, 34, 35, 36, 37, 2, 38, 39, 40, 41, 42, 18, 43, 44, 45, 46, 13, 14, 47, 48, 49, 50, 51, 52, 154, 155, 156, 157, 158, 159] (by decide +kernel) (by decide +kernel)) (goodIn_sub (fun _ h => List.mem_append_left _ (List.mem_append_right _ h)) (by decide +kernel))) (goodIn_sub (fun _ h => List.mem_append_right _ h) (by decide +kernel))
set_option maxRecDepth 20000 in
theorem gL_law_L_put : GoodIn wsL_law (va_wsS RL 33 yL_put wsL_put) := goodIn_app (goodIn_of _ (by decide +kernel)) ggL_law_L_put
set_option maxRecDepth 20000 in
theorem ggL_law_X0_fill : GoodIn wsL_law wsX0_fill := goodIn_r _ [56, 14, 13, 50, 51, 2, 52, 57, 58, 59, 60, 61, 62, 18, 154, 155, 156, 157, 158, 159] (by decide +kernel) (by decide +kernel)
set_option maxRecDepth 20000 in
theorem gL_law_X0_fill : GoodIn wsL_law (wsV RL 41 RX0 yX0_fill wsX0_fill) := goodIn_app (goodIn_of _ (by decide +kernel)) ggL_law_X0_fill
set_option maxRecDepth 20000 in
theorem ggL_law_X0_transpose : GoodIn wsL_law wsX0_transpose := goodIn_r _ [66, 13, 14, 27, 28, 25, 29, 67, 68, 69, 2, 70, 50, 51, 52, 71, 72, 73, 74, 75, 76, 77, 78, 18, 79, 80, 81, 82, 154, 155, 156, 157, 158, 159] (by decide +kernel) (by decide +kernel)
set_option maxRecDepth 20000 in
theorem gL_law_X0_transpose : GoodIn wsL_law (wsV RL 46 RX0 yX0_transpose wsX0_transpose) := goodIn_app (goodIn_of _ (by decide +kernel)) ggL_law_X0_transpose
set_option maxRecDepth 20000 in
theorem ggL_law_X0_mirror : GoodIn wsL_law wsX0_mirror := goodIn_r _ [86, 14, 13, 50, 51, 2, 52, 71, 72, 73, 74, 75, 76, 77, 78, 18, 87, 88, 89, 90, 154, 155, 156, 157, 158, 159] (by decide +kernel) (by decide +kernel)
set_option maxRecDepth 20000 in
theorem gL_law_X0_mirror : GoodIn wsL_law (wsV RL 50 RX0 yX0_mirror wsX0_mirror) := goodIn_app (goodIn_of _ (by decide +kernel)) ggL_law_X0_mirror
set_option maxRecDepth 20000 in
theorem ggL_law_X0_flip : GoodIn wsL_law wsX0_flip := goodIn_r _ [94, 14, 13, 50, 51, 2, 52, 71, 72, 73, 74, 75, 76, 77, 78, 18, 87, 88, 89, 90, 154, 155, 156, 157, 158, 159] (by decide +kernel) (by decide +kernel)
set_option maxRecDepth 20000 in
theorem gL_law_X0_flip : GoodIn wsL_law (wsV RL 54 RX0 yX0_flip wsX0_flip) := goodIn_app (goodIn_of _ (by decide +kernel)) ggL_law_X0_flip
set_option maxRecDepth 20000 in
theorem ggL_law_X0_turn : GoodIn wsL_law wsX0_turn := goodIn_r _ [98, 99, 100, 101, 102, 103, 64, 65, 2, 66, 13, 14, 27, 28, 25, 29, 67, 68, 69, 70, 50, 51, 52, 71, 72, 73, 74, 75, 76, 77, 78, 18, 79, 80, 81, 82, 104, 84, 85, 86, 87, 88, 89, 90, 105, 92, 93, 94, 154, 155, 156, 157, 158, 159] (by decide +kernel) (by decide +kernel)
set_option maxRecDepth 20000 in
theorem gL_law_X0_turn : GoodIn wsL_law (wsV RL 58 RX0 yX0_turn wsX0_turn) := goodIn_app (goodIn_of _ (by decide +kernel)) ggL_law_X0_turn
set_option maxRecDepth 20000 in
theorem ggL_law_X0_crop : GoodIn wsL_law wsX0_crop := goodIn_r _ [109, 13, 14, 18, 110, 111, 112, 113, 50, 51, 2, 52, 154, 155, 156, 157, 158, 159] (by decide +kernel) (by decide +kernel)
set_option maxRecDepth 20000 in
theorem gL_law_X0_crop : GoodIn wsL_law (wsV RL 62 RX0 yX0_crop wsX0_crop) := goodIn_app (goodIn_of _ (by decide +kernel)) ggL_law_X0_crop
set_option maxRecDepth 20000 in
theorem ggL_law_X0_swap : GoodIn wsL_law wsX0_swap := goodIn_r _ [117, 43, 44, 45, 2, 46, 13, 14, 50, 51, 52, 71, 72, 73, 74, 75, 76, 77, 78, 18, 154, 155, 156, 157, 158, 159] (by decide +kernel) (by decide +kernel)
set_option maxRecDepth 20000 in
theorem gL_law_X0_swap : GoodIn wsL_law (wsV RL 67 RX0 yX0_swap wsX0_swap) := goodIn_app (goodIn_of _ (by decide +kernel)) ggL_law_X0_swap
set_option maxRecDepth 20000 in
theorem ggL_law_X0_keep : GoodIn wsL_law wsX0_keep := goodIn_r _ [121, 18, 19, 110, 111, 112, 113, 13, 15, 14, 16, 154, 155, 156, 157, 158, 159] (by decide +kernel) (by decide +kernel)
set_option maxRecDepth 20000 in
theorem gL_law_X0_keep : GoodIn wsL_law (wsV RL 71 RX0 yX0_keep wsX0_keep) := goodIn_app (goodIn_of _ (by decide +kernel)) ggL_law_X0_keep
set_option maxRecDepth 20000 in
theorem ggL_law_X0_restore : GoodIn wsL_law wsX0_restore := goodIn_r _ [125, 19, 18, 110, 111, 112, 113, 15, 13, 16, 14, 154, 155, 156, 157, 158, 159] (by decide +kernel) (by decide +kernel)
set_option maxRecDepth 20000 in
theorem gL_law_X0_restore : GoodIn wsL_law (wsV RL 75 RX0 yX0_restore wsX0_restore) := goodIn_app (goodIn_of _ (by decide +kernel)) ggL_law_X0_restore
set_option maxRecDepth 20000 in
theorem ggL_law_X0_differ : GoodIn wsL_law wsX0_differ := goodIn_r _ [129, 13, 15, 14, 16, 18, 19, 50, 51, 2, 52, 154, 155, 156, 157, 158, 159] (by decide +kernel) (by decide +kernel)
set_option maxRecDepth 20000 in
theorem gL_law_X0_differ : GoodIn wsL_law (wsV RL 79 RX0 yX0_differ wsX0_differ) := goodIn_app (goodIn_of _ (by decide +kernel)) ggL_law_X0_differ
set_option maxRecDepth 20000 in
theorem ggL_law_X0_at : GoodIn wsL_law wsX0_at := goodIn_r _ [133, 18, 43, 44, 45, 2, 46, 13, 14, 47, 48, 49, 50, 51, 52, 154, 155, 156, 157, 158, 159] (by decide +kernel) (by decide +kernel)
set_option maxRecDepth 20000 in
theorem gL_law_X0_at : GoodIn wsL_law (wsV RL 83 RX0 yX0_at wsX0_at) := goodIn_app (goodIn_of _ (by decide +kernel)) ggL_law_X0_at
set_option maxRecDepth 20000 in
theorem ggL_law_X0_four : GoodIn wsL_law wsX0_four := goodIn_r _ [137, 18, 138, 43, 44, 45, 2, 46, 13, 14, 50, 51, 52, 154, 155, 156, 157, 158, 159] (by decide +kernel) (by decide +kernel)
set_option maxRecDepth 20000 in
theorem gL_law_X0_four : GoodIn wsL_law (wsV RL 88 RX0 yX0_four wsX0_four) := goodIn_app (goodIn_of _ (by decide +kernel)) ggL_law_X0_four
set_option maxRecDepth 20000 in
theorem ggL_law_X0_look : GoodIn wsL_law wsX0_look := goodIn_r _ [142, 13, 14, 15, 16, 143, 144, 145, 2, 146, 18, 50, 51, 52, 147, 148, 149, 150, 151, 152, 25, 153, 27, 28, 29, 154, 155, 156, 157, 158, 159] (by decide +kernel) (by decide +kernel)
set_option maxRecDepth 20000 in
theorem gL_law_X0_look : GoodIn wsL_law (wsV RL 97 RX0 yX0_look wsX0_look) := goodIn_app (goodIn_of _ (by decide +kernel)) ggL_law_X0_look
theorem dL_law_0 : decode cL_law 0 = .ok (.new 8, 3) := by decide +kernel
theorem dL_law_3 : decode cL_law 3 = .ok (.dup, 1) := by decide +kernel
theorem dL_law_4 : decode cL_law 4 = .ok (.aload_n 0, 1) := by decide +kernel
theorem dL_law_5 : decode cL_law 5 = .ok (.iconst 0, 1) := by decide +kernel
theorem dL_law_6 : decode cL_law 6 = .ok (.invokestatic 21, 3) := by decide +kernel
theorem dL_law_9 : decode cL_law 9 = .ok (.aload_n 0, 1) := by decide +kernel
theorem dL_law_10 : decode cL_law 10 = .ok (.iconst 1, 1) := by decide +kernel
theorem dL_law_11 : decode cL_law 11 = .ok (.invokestatic 21, 3) := by decide +kernel
theorem dL_law_14 : decode cL_law 14 = .ok (.invokespecial 27, 3) := by decide +kernel
theorem dL_law_17 : decode cL_law 17 = .ok (.astore_n 1, 1) := by decide +kernel
theorem dL_law_18 : decode cL_law 18 = .ok (.new 30, 3) := by decide +kernel
theorem dL_law_21 : decode cL_law 21 = .ok (.dup, 1) := by decide +kernel
theorem dL_law_22 : decode cL_law 22 = .ok (.aload_n 0, 1) := by decide +kernel
theorem dL_law_23 : decode cL_law 23 = .ok (.iconst 0, 1) := by decide +kernel
theorem dL_law_24 : decode cL_law 24 = .ok (.invokestatic 21, 3) := by decide +kernel
theorem dL_law_27 : decode cL_law 27 = .ok (.aload_n 0, 1) := by decide +kernel
theorem dL_law_28 : decode cL_law 28 = .ok (.iconst 1, 1) := by decide +kernel
theorem dL_law_29 : decode cL_law 29 = .ok (.invokestatic 21, 3) := by decide +kernel
theorem dL_law_32 : decode cL_law 32 = .ok (.invokespecial 32, 3) := by decide +kernel
theorem dL_law_35 : decode cL_law 35 = .ok (.astore_n 2, 1) := by decide +kernel
theorem dL_law_36 : decode cL_law 36 = .ok (.iconst 1, 1) := by decide +kernel
theorem dL_law_37 : decode cL_law 37 = .ok (.newarray .long, 2) := by decide +kernel
theorem dL_law_39 : decode cL_law 39 = .ok (.astore_n 3, 1) := by decide +kernel
theorem dL_law_40 : decode cL_law 40 = .ok (.iconst 2, 1) := by decide +kernel
theorem dL_law_41 : decode cL_law 41 = .ok (.istore 4, 2) := by decide +kernel
theorem dL_law_43 : decode cL_law 43 = .ok (.iload 4, 2) := by decide +kernel
theorem dL_law_45 : decode cL_law 45 = .ok (.aload_n 0, 1) := by decide +kernel
theorem dL_law_46 : decode cL_law 46 = .ok (.arraylength, 1) := by decide +kernel
theorem dL_law_47 : decode cL_law 47 = .ok (.iconst 5, 1) := by decide +kernel
theorem dL_law_48 : decode cL_law 48 = .ok (.isub, 1) := by decide +kernel
theorem dL_law_49 : decode cL_law 49 = .ok (.if_icmp .gt 588, 3) := by decide +kernel
theorem dL_law_52 : decode cL_law 52 = .ok (.aload_n 0, 1) := by decide +kernel
theorem dL_law_53 : decode cL_law 53 = .ok (.iload 4, 2) := by decide +kernel
theorem dL_law_55 : decode cL_law 55 = .ok (.iaload, 1) := by decide +kernel
theorem dL_law_56 : decode cL_law 56 = .ok (.bipush 15, 2) := by decide +kernel
theorem dL_law_58 : decode cL_law 58 = .ok (.iand, 1) := by decide +kernel
theorem dL_law_59 : decode cL_law 59 = .ok (.tableswitch 572 0 14 #[73, 145, 168, 179, 190, 201, 224, 285, 346, 357, 368, 381, 430, 492, 547], 73) := by decide +kernel
theorem dL_law_132 : decode cL_law 132 = .ok (.aload_n 1, 1) := by decide +kernel
theorem dL_law_133 : decode cL_law 133 = .ok (.aload_n 0, 1) := by decide +kernel
theorem dL_law_134 : decode cL_law 134 = .ok (.iload 4, 2) := by decide +kernel
theorem dL_law_136 : decode cL_law 136 = .ok (.iconst 1, 1) := by decide +kernel
theorem dL_law_137 : decode cL_law 137 = .ok (.iadd, 1) := by decide +kernel
theorem dL_law_138 : decode cL_law 138 = .ok (.iaload, 1) := by decide +kernel
theorem dL_law_139 : decode cL_law 139 = .ok (.aload_n 0, 1) := by decide +kernel
theorem dL_law_140 : decode cL_law 140 = .ok (.iload 4, 2) := by decide +kernel
theorem dL_law_142 : decode cL_law 142 = .ok (.iconst 2, 1) := by decide +kernel
theorem dL_law_143 : decode cL_law 143 = .ok (.iadd, 1) := by decide +kernel
theorem dL_law_144 : decode cL_law 144 = .ok (.iaload, 1) := by decide +kernel
theorem dL_law_145 : decode cL_law 145 = .ok (.aload_n 0, 1) := by decide +kernel
theorem dL_law_146 : decode cL_law 146 = .ok (.iload 4, 2) := by decide +kernel
theorem dL_law_148 : decode cL_law 148 = .ok (.iconst 3, 1) := by decide +kernel
theorem dL_law_149 : decode cL_law 149 = .ok (.iadd, 1) := by decide +kernel
theorem dL_law_150 : decode cL_law 150 = .ok (.iaload, 1) := by decide +kernel
theorem dL_law_151 : decode cL_law 151 = .ok (.aload_n 0, 1) := by decide +kernel
theorem dL_law_152 : decode cL_law 152 = .ok (.iload 4, 2) := by decide +kernel
theorem dL_law_154 : decode cL_law 154 = .ok (.iconst 4, 1) := by decide +kernel
theorem dL_law_155 : decode cL_law 155 = .ok (.iadd, 1) := by decide +kernel
theorem dL_law_156 : decode cL_law 156 = .ok (.iaload, 1) := by decide +kernel
theorem dL_law_157 : decode cL_law 157 = .ok (.invokestatic 33, 3) := by decide +kernel
theorem dL_law_160 : decode cL_law 160 = .ok (.istore 5, 2) := by decide +kernel
theorem dL_law_162 : decode cL_law 162 = .ok (.aload_n 2, 1) := by decide +kernel
theorem dL_law_163 : decode cL_law 163 = .ok (.aload_n 0, 1) := by decide +kernel
theorem dL_law_164 : decode cL_law 164 = .ok (.iload 4, 2) := by decide +kernel
theorem dL_law_166 : decode cL_law 166 = .ok (.iconst 1, 1) := by decide +kernel
theorem dL_law_167 : decode cL_law 167 = .ok (.iadd, 1) := by decide +kernel
theorem dL_law_168 : decode cL_law 168 = .ok (.iaload, 1) := by decide +kernel
theorem dL_law_169 : decode cL_law 169 = .ok (.aload_n 0, 1) := by decide +kernel
theorem dL_law_170 : decode cL_law 170 = .ok (.iload 4, 2) := by decide +kernel
theorem dL_law_172 : decode cL_law 172 = .ok (.iconst 2, 1) := by decide +kernel
theorem dL_law_173 : decode cL_law 173 = .ok (.iadd, 1) := by decide +kernel
theorem dL_law_174 : decode cL_law 174 = .ok (.iaload, 1) := by decide +kernel
theorem dL_law_175 : decode cL_law 175 = .ok (.aload_n 0, 1) := by decide +kernel
theorem dL_law_176 : decode cL_law 176 = .ok (.iload 4, 2) := by decide +kernel
theorem dL_law_178 : decode cL_law 178 = .ok (.iconst 3, 1) := by decide +kernel
theorem dL_law_179 : decode cL_law 179 = .ok (.iadd, 1) := by decide +kernel
theorem dL_law_180 : decode cL_law 180 = .ok (.iaload, 1) := by decide +kernel
theorem dL_law_181 : decode cL_law 181 = .ok (.aload_n 0, 1) := by decide +kernel
theorem dL_law_182 : decode cL_law 182 = .ok (.iload 4, 2) := by decide +kernel
theorem dL_law_184 : decode cL_law 184 = .ok (.iconst 4, 1) := by decide +kernel
theorem dL_law_185 : decode cL_law 185 = .ok (.iadd, 1) := by decide +kernel
theorem dL_law_186 : decode cL_law 186 = .ok (.iaload, 1) := by decide +kernel
theorem dL_law_187 : decode cL_law 187 = .ok (.invokevirtual 36, 3) := by decide +kernel
theorem dL_law_190 : decode cL_law 190 = .ok (.aload_n 2, 1) := by decide +kernel
theorem dL_law_191 : decode cL_law 191 = .ok (.invokevirtual 37, 3) := by decide +kernel
theorem dL_law_194 : decode cL_law 194 = .ok (.iload 5, 2) := by decide +kernel
theorem dL_law_196 : decode cL_law 196 = .ok (.if_icmp .eq 5, 3) := by decide +kernel
theorem dL_law_199 : decode cL_law 199 = .ok (.iconst 0, 1) := by decide +kernel
theorem dL_law_200 : decode cL_law 200 = .ok (.ireturn, 1) := by decide +kernel
theorem dL_law_201 : decode cL_law 201 = .ok (.goto 430, 3) := by decide +kernel
theorem dL_law_204 : decode cL_law 204 = .ok (.aload_n 1, 1) := by decide +kernel
theorem dL_law_205 : decode cL_law 205 = .ok (.aload_n 0, 1) := by decide +kernel
theorem dL_law_206 : decode cL_law 206 = .ok (.iload 4, 2) := by decide +kernel
theorem dL_law_208 : decode cL_law 208 = .ok (.iconst 1, 1) := by decide +kernel
theorem dL_law_209 : decode cL_law 209 = .ok (.iadd, 1) := by decide +kernel
theorem dL_law_210 : decode cL_law 210 = .ok (.iaload, 1) := by decide +kernel
theorem dL_law_211 : decode cL_law 211 = .ok (.invokevirtual 41, 3) := by decide +kernel
theorem dL_law_214 : decode cL_law 214 = .ok (.aload_n 2, 1) := by decide +kernel
theorem dL_law_215 : decode cL_law 215 = .ok (.aload_n 0, 1) := by decide +kernel
theorem dL_law_216 : decode cL_law 216 = .ok (.iload 4, 2) := by decide +kernel
theorem dL_law_218 : decode cL_law 218 = .ok (.iconst 1, 1) := by decide +kernel
theorem dL_law_219 : decode cL_law 219 = .ok (.iadd, 1) := by decide +kernel
theorem dL_law_220 : decode cL_law 220 = .ok (.iaload, 1) := by decide +kernel
theorem dL_law_221 : decode cL_law 221 = .ok (.invokevirtual 45, 3) := by decide +kernel
theorem dL_law_224 : decode cL_law 224 = .ok (.goto 407, 3) := by decide +kernel
theorem dL_law_227 : decode cL_law 227 = .ok (.aload_n 1, 1) := by decide +kernel
theorem dL_law_228 : decode cL_law 228 = .ok (.invokevirtual 46, 3) := by decide +kernel
theorem dL_law_231 : decode cL_law 231 = .ok (.aload_n 2, 1) := by decide +kernel
theorem dL_law_232 : decode cL_law 232 = .ok (.invokevirtual 49, 3) := by decide +kernel
theorem dL_law_235 : decode cL_law 235 = .ok (.goto 396, 3) := by decide +kernel
theorem dL_law_238 : decode cL_law 238 = .ok (.aload_n 1, 1) := by decide +kernel
theorem dL_law_239 : decode cL_law 239 = .ok (.invokevirtual 50, 3) := by decide +kernel
theorem dL_law_242 : decode cL_law 242 = .ok (.aload_n 2, 1) := by decide +kernel
theorem dL_law_243 : decode cL_law 243 = .ok (.invokevirtual 53, 3) := by decide +kernel
theorem dL_law_246 : decode cL_law 246 = .ok (.goto 385, 3) := by decide +kernel
theorem dL_law_249 : decode cL_law 249 = .ok (.aload_n 1, 1) := by decide +kernel
theorem dL_law_250 : decode cL_law 250 = .ok (.invokevirtual 54, 3) := by decide +kernel
theorem dL_law_253 : decode cL_law 253 = .ok (.aload_n 2, 1) := by decide +kernel
theorem dL_law_254 : decode cL_law 254 = .ok (.invokevirtual 57, 3) := by decide +kernel
theorem dL_law_257 : decode cL_law 257 = .ok (.goto 374, 3) := by decide +kernel
theorem dL_law_260 : decode cL_law 260 = .ok (.aload_n 1, 1) := by decide +kernel
theorem dL_law_261 : decode cL_law 261 = .ok (.aload_n 0, 1) := by decide +kernel
theorem dL_law_262 : decode cL_law 262 = .ok (.iload 4, 2) := by decide +kernel
theorem dL_law_264 : decode cL_law 264 = .ok (.iconst 1, 1) := by decide +kernel
theorem dL_law_265 : decode cL_law 265 = .ok (.iadd, 1) := by decide +kernel
theorem dL_law_266 : decode cL_law 266 = .ok (.iaload, 1) := by decide +kernel
theorem dL_law_267 : decode cL_law 267 = .ok (.invokevirtual 58, 3) := by decide +kernel
theorem dL_law_270 : decode cL_law 270 = .ok (.aload_n 2, 1) := by decide +kernel
theorem dL_law_271 : decode cL_law 271 = .ok (.aload_n 0, 1) := by decide +kernel
theorem dL_law_272 : decode cL_law 272 = .ok (.iload 4, 2) := by decide +kernel
theorem dL_law_274 : decode cL_law 274 = .ok (.iconst 1, 1) := by decide +kernel
theorem dL_law_275 : decode cL_law 275 = .ok (.iadd, 1) := by decide +kernel
theorem dL_law_276 : decode cL_law 276 = .ok (.iaload, 1) := by decide +kernel
theorem dL_law_277 : decode cL_law 277 = .ok (.invokevirtual 61, 3) := by decide +kernel
theorem dL_law_280 : decode cL_law 280 = .ok (.goto 351, 3) := by decide +kernel
theorem dL_law_283 : decode cL_law 283 = .ok (.aload_n 1, 1) := by decide +kernel
theorem dL_law_284 : decode cL_law 284 = .ok (.aload_n 0, 1) := by decide +kernel
theorem dL_law_285 : decode cL_law 285 = .ok (.iload 4, 2) := by decide +kernel
theorem dL_law_287 : decode cL_law 287 = .ok (.iconst 1, 1) := by decide +kernel
theorem dL_law_288 : decode cL_law 288 = .ok (.iadd, 1) := by decide +kernel
theorem dL_law_289 : decode cL_law 289 = .ok (.iaload, 1) := by decide +kernel
theorem dL_law_290 : decode cL_law 290 = .ok (.aload_n 0, 1) := by decide +kernel
theorem dL_law_291 : decode cL_law 291 = .ok (.iload 4, 2) := by decide +kernel
theorem dL_law_293 : decode cL_law 293 = .ok (.iconst 2, 1) := by decide +kernel
theorem dL_law_294 : decode cL_law 294 = .ok (.iadd, 1) := by decide +kernel
theorem dL_law_295 : decode cL_law 295 = .ok (.iaload, 1) := by decide +kernel
theorem dL_law_296 : decode cL_law 296 = .ok (.aload_n 0, 1) := by decide +kernel
theorem dL_law_297 : decode cL_law 297 = .ok (.iload 4, 2) := by decide +kernel
theorem dL_law_299 : decode cL_law 299 = .ok (.iconst 3, 1) := by decide +kernel
theorem dL_law_300 : decode cL_law 300 = .ok (.iadd, 1) := by decide +kernel
theorem dL_law_301 : decode cL_law 301 = .ok (.iaload, 1) := by decide +kernel
theorem dL_law_302 : decode cL_law 302 = .ok (.aload_n 0, 1) := by decide +kernel
theorem dL_law_303 : decode cL_law 303 = .ok (.iload 4, 2) := by decide +kernel
theorem dL_law_305 : decode cL_law 305 = .ok (.iconst 4, 1) := by decide +kernel
theorem dL_law_306 : decode cL_law 306 = .ok (.iadd, 1) := by decide +kernel
theorem dL_law_307 : decode cL_law 307 = .ok (.iaload, 1) := by decide +kernel
theorem dL_law_308 : decode cL_law 308 = .ok (.invokevirtual 62, 3) := by decide +kernel
theorem dL_law_311 : decode cL_law 311 = .ok (.aload_n 2, 1) := by decide +kernel
theorem dL_law_312 : decode cL_law 312 = .ok (.aload_n 0, 1) := by decide +kernel
theorem dL_law_313 : decode cL_law 313 = .ok (.iload 4, 2) := by decide +kernel
theorem dL_law_315 : decode cL_law 315 = .ok (.iconst 1, 1) := by decide +kernel
theorem dL_law_316 : decode cL_law 316 = .ok (.iadd, 1) := by decide +kernel
theorem dL_law_317 : decode cL_law 317 = .ok (.iaload, 1) := by decide +kernel
theorem dL_law_318 : decode cL_law 318 = .ok (.aload_n 0, 1) := by decide +kernel
theorem dL_law_319 : decode cL_law 319 = .ok (.iload 4, 2) := by decide +kernel
theorem dL_law_321 : decode cL_law 321 = .ok (.iconst 2, 1) := by decide +kernel
theorem dL_law_322 : decode cL_law 322 = .ok (.iadd, 1) := by decide +kernel
theorem dL_law_323 : decode cL_law 323 = .ok (.iaload, 1) := by decide +kernel
theorem dL_law_324 : decode cL_law 324 = .ok (.aload_n 0, 1) := by decide +kernel
theorem dL_law_325 : decode cL_law 325 = .ok (.iload 4, 2) := by decide +kernel
theorem dL_law_327 : decode cL_law 327 = .ok (.iconst 3, 1) := by decide +kernel
theorem dL_law_328 : decode cL_law 328 = .ok (.iadd, 1) := by decide +kernel
theorem dL_law_329 : decode cL_law 329 = .ok (.iaload, 1) := by decide +kernel
theorem dL_law_330 : decode cL_law 330 = .ok (.aload_n 0, 1) := by decide +kernel
theorem dL_law_331 : decode cL_law 331 = .ok (.iload 4, 2) := by decide +kernel
theorem dL_law_333 : decode cL_law 333 = .ok (.iconst 4, 1) := by decide +kernel
theorem dL_law_334 : decode cL_law 334 = .ok (.iadd, 1) := by decide +kernel
theorem dL_law_335 : decode cL_law 335 = .ok (.iaload, 1) := by decide +kernel
theorem dL_law_336 : decode cL_law 336 = .ok (.invokevirtual 66, 3) := by decide +kernel
theorem dL_law_339 : decode cL_law 339 = .ok (.if_icmp .eq 292, 3) := by decide +kernel
theorem dL_law_342 : decode cL_law 342 = .ok (.iconst 0, 1) := by decide +kernel
theorem dL_law_343 : decode cL_law 343 = .ok (.ireturn, 1) := by decide +kernel
theorem dL_law_344 : decode cL_law 344 = .ok (.aload_n 1, 1) := by decide +kernel
theorem dL_law_345 : decode cL_law 345 = .ok (.aload_n 0, 1) := by decide +kernel
theorem dL_law_346 : decode cL_law 346 = .ok (.iload 4, 2) := by decide +kernel
theorem dL_law_348 : decode cL_law 348 = .ok (.iconst 1, 1) := by decide +kernel
theorem dL_law_349 : decode cL_law 349 = .ok (.iadd, 1) := by decide +kernel
theorem dL_law_350 : decode cL_law 350 = .ok (.iaload, 1) := by decide +kernel
theorem dL_law_351 : decode cL_law 351 = .ok (.aload_n 0, 1) := by decide +kernel
theorem dL_law_352 : decode cL_law 352 = .ok (.iload 4, 2) := by decide +kernel
theorem dL_law_354 : decode cL_law 354 = .ok (.iconst 2, 1) := by decide +kernel
theorem dL_law_355 : decode cL_law 355 = .ok (.iadd, 1) := by decide +kernel
theorem dL_law_356 : decode cL_law 356 = .ok (.iaload, 1) := by decide +kernel
theorem dL_law_357 : decode cL_law 357 = .ok (.aload_n 0, 1) := by decide +kernel
theorem dL_law_358 : decode cL_law 358 = .ok (.iload 4, 2) := by decide +kernel
theorem dL_law_360 : decode cL_law 360 = .ok (.iconst 3, 1) := by decide +kernel
theorem dL_law_361 : decode cL_law 361 = .ok (.iadd, 1) := by decide +kernel
theorem dL_law_362 : decode cL_law 362 = .ok (.iaload, 1) := by decide +kernel
theorem dL_law_363 : decode cL_law 363 = .ok (.aload_n 0, 1) := by decide +kernel
theorem dL_law_364 : decode cL_law 364 = .ok (.iload 4, 2) := by decide +kernel
theorem dL_law_366 : decode cL_law 366 = .ok (.iconst 4, 1) := by decide +kernel
theorem dL_law_367 : decode cL_law 367 = .ok (.iadd, 1) := by decide +kernel
theorem dL_law_368 : decode cL_law 368 = .ok (.iaload, 1) := by decide +kernel
theorem dL_law_369 : decode cL_law 369 = .ok (.invokevirtual 67, 3) := by decide +kernel
theorem dL_law_372 : decode cL_law 372 = .ok (.aload_n 2, 1) := by decide +kernel
theorem dL_law_373 : decode cL_law 373 = .ok (.aload_n 0, 1) := by decide +kernel
theorem dL_law_374 : decode cL_law 374 = .ok (.iload 4, 2) := by decide +kernel
theorem dL_law_376 : decode cL_law 376 = .ok (.iconst 1, 1) := by decide +kernel
theorem dL_law_377 : decode cL_law 377 = .ok (.iadd, 1) := by decide +kernel
theorem dL_law_378 : decode cL_law 378 = .ok (.iaload, 1) := by decide +kernel
theorem dL_law_379 : decode cL_law 379 = .ok (.aload_n 0, 1) := by decide +kernel
theorem dL_law_380 : decode cL_law 380 = .ok (.iload 4, 2) := by decide +kernel
theorem dL_law_382 : decode cL_law 382 = .ok (.iconst 2, 1) := by decide +kernel
theorem dL_law_383 : decode cL_law 383 = .ok (.iadd, 1) := by decide +kernel
theorem dL_law_384 : decode cL_law 384 = .ok (.iaload, 1) := by decide +kernel
theorem dL_law_385 : decode cL_law 385 = .ok (.aload_n 0, 1) := by decide +kernel
theorem dL_law_386 : decode cL_law 386 = .ok (.iload 4, 2) := by decide +kernel
theorem dL_law_388 : decode cL_law 388 = .ok (.iconst 3, 1) := by decide +kernel
theorem dL_law_389 : decode cL_law 389 = .ok (.iadd, 1) := by decide +kernel
theorem dL_law_390 : decode cL_law 390 = .ok (.iaload, 1) := by decide +kernel
theorem dL_law_391 : decode cL_law 391 = .ok (.aload_n 0, 1) := by decide +kernel
theorem dL_law_392 : decode cL_law 392 = .ok (.iload 4, 2) := by decide +kernel
theorem dL_law_394 : decode cL_law 394 = .ok (.iconst 4, 1) := by decide +kernel
theorem dL_law_395 : decode cL_law 395 = .ok (.iadd, 1) := by decide +kernel
theorem dL_law_396 : decode cL_law 396 = .ok (.iaload, 1) := by decide +kernel
theorem dL_law_397 : decode cL_law 397 = .ok (.invokevirtual 70, 3) := by decide +kernel
theorem dL_law_400 : decode cL_law 400 = .ok (.if_icmp .eq 231, 3) := by decide +kernel
theorem dL_law_403 : decode cL_law 403 = .ok (.iconst 0, 1) := by decide +kernel
theorem dL_law_404 : decode cL_law 404 = .ok (.ireturn, 1) := by decide +kernel
theorem dL_law_405 : decode cL_law 405 = .ok (.aload_n 1, 1) := by decide +kernel
theorem dL_law_406 : decode cL_law 406 = .ok (.invokevirtual 71, 3) := by decide +kernel
theorem dL_law_409 : decode cL_law 409 = .ok (.aload_n 2, 1) := by decide +kernel
theorem dL_law_410 : decode cL_law 410 = .ok (.invokevirtual 74, 3) := by decide +kernel
theorem dL_law_413 : decode cL_law 413 = .ok (.goto 218, 3) := by decide +kernel
theorem dL_law_416 : decode cL_law 416 = .ok (.aload_n 1, 1) := by decide +kernel
theorem dL_law_417 : decode cL_law 417 = .ok (.invokevirtual 75, 3) := by decide +kernel
theorem dL_law_420 : decode cL_law 420 = .ok (.aload_n 2, 1) := by decide +kernel
theorem dL_law_421 : decode cL_law 421 = .ok (.invokevirtual 78, 3) := by decide +kernel
theorem dL_law_424 : decode cL_law 424 = .ok (.goto 207, 3) := by decide +kernel
theorem dL_law_427 : decode cL_law 427 = .ok (.aload_n 1, 1) := by decide +kernel
theorem dL_law_428 : decode cL_law 428 = .ok (.invokevirtual 79, 3) := by decide +kernel
theorem dL_law_431 : decode cL_law 431 = .ok (.aload_n 2, 1) := by decide +kernel
theorem dL_law_432 : decode cL_law 432 = .ok (.invokevirtual 82, 3) := by decide +kernel
theorem dL_law_435 : decode cL_law 435 = .ok (.if_icmp .eq 196, 3) := by decide +kernel
theorem dL_law_438 : decode cL_law 438 = .ok (.iconst 0, 1) := by decide +kernel
theorem dL_law_439 : decode cL_law 439 = .ok (.ireturn, 1) := by decide +kernel
theorem dL_law_440 : decode cL_law 440 = .ok (.aload_n 1, 1) := by decide +kernel
theorem dL_law_441 : decode cL_law 441 = .ok (.aload_n 0, 1) := by decide +kernel
theorem dL_law_442 : decode cL_law 442 = .ok (.iload 4, 2) := by decide +kernel
theorem dL_law_444 : decode cL_law 444 = .ok (.iconst 1, 1) := by decide +kernel
theorem dL_law_445 : decode cL_law 445 = .ok (.iadd, 1) := by decide +kernel
theorem dL_law_446 : decode cL_law 446 = .ok (.iaload, 1) := by decide +kernel
theorem dL_law_447 : decode cL_law 447 = .ok (.aload_n 0, 1) := by decide +kernel
theorem dL_law_448 : decode cL_law 448 = .ok (.iload 4, 2) := by decide +kernel
theorem dL_law_450 : decode cL_law 450 = .ok (.iconst 2, 1) := by decide +kernel
theorem dL_law_451 : decode cL_law 451 = .ok (.iadd, 1) := by decide +kernel
theorem dL_law_452 : decode cL_law 452 = .ok (.iaload, 1) := by decide +kernel
theorem dL_law_453 : decode cL_law 453 = .ok (.aload_n 0, 1) := by decide +kernel
theorem dL_law_454 : decode cL_law 454 = .ok (.iload 4, 2) := by decide +kernel
theorem dL_law_456 : decode cL_law 456 = .ok (.iconst 3, 1) := by decide +kernel
theorem dL_law_457 : decode cL_law 457 = .ok (.iadd, 1) := by decide +kernel
theorem dL_law_458 : decode cL_law 458 = .ok (.iaload, 1) := by decide +kernel
theorem dL_law_459 : decode cL_law 459 = .ok (.invokevirtual 83, 3) := by decide +kernel
theorem dL_law_462 : decode cL_law 462 = .ok (.aload_n 2, 1) := by decide +kernel
theorem dL_law_463 : decode cL_law 463 = .ok (.aload_n 0, 1) := by decide +kernel
theorem dL_law_464 : decode cL_law 464 = .ok (.iload 4, 2) := by decide +kernel
theorem dL_law_466 : decode cL_law 466 = .ok (.iconst 1, 1) := by decide +kernel
theorem dL_law_467 : decode cL_law 467 = .ok (.iadd, 1) := by decide +kernel
theorem dL_law_468 : decode cL_law 468 = .ok (.iaload, 1) := by decide +kernel
theorem dL_law_469 : decode cL_law 469 = .ok (.aload_n 0, 1) := by decide +kernel
theorem dL_law_470 : decode cL_law 470 = .ok (.iload 4, 2) := by decide +kernel
theorem dL_law_472 : decode cL_law 472 = .ok (.iconst 2, 1) := by decide +kernel
theorem dL_law_473 : decode cL_law 473 = .ok (.iadd, 1) := by decide +kernel
theorem dL_law_474 : decode cL_law 474 = .ok (.iaload, 1) := by decide +kernel
theorem dL_law_475 : decode cL_law 475 = .ok (.aload_n 0, 1) := by decide +kernel
theorem dL_law_476 : decode cL_law 476 = .ok (.iload 4, 2) := by decide +kernel
theorem dL_law_478 : decode cL_law 478 = .ok (.iconst 3, 1) := by decide +kernel
theorem dL_law_479 : decode cL_law 479 = .ok (.iadd, 1) := by decide +kernel
theorem dL_law_480 : decode cL_law 480 = .ok (.iaload, 1) := by decide +kernel
theorem dL_law_481 : decode cL_law 481 = .ok (.invokevirtual 87, 3) := by decide +kernel
theorem dL_law_484 : decode cL_law 484 = .ok (.if_icmp .eq 147, 3) := by decide +kernel
theorem dL_law_487 : decode cL_law 487 = .ok (.iconst 0, 1) := by decide +kernel
theorem dL_law_488 : decode cL_law 488 = .ok (.ireturn, 1) := by decide +kernel
theorem dL_law_489 : decode cL_law 489 = .ok (.aload_n 1, 1) := by decide +kernel
theorem dL_law_490 : decode cL_law 490 = .ok (.aload_n 0, 1) := by decide +kernel
theorem dL_law_491 : decode cL_law 491 = .ok (.iload 4, 2) := by decide +kernel
theorem dL_law_493 : decode cL_law 493 = .ok (.iconst 1, 1) := by decide +kernel
theorem dL_law_494 : decode cL_law 494 = .ok (.iadd, 1) := by decide +kernel
theorem dL_law_495 : decode cL_law 495 = .ok (.iaload, 1) := by decide +kernel
theorem dL_law_496 : decode cL_law 496 = .ok (.aload_n 0, 1) := by decide +kernel
theorem dL_law_497 : decode cL_law 497 = .ok (.iload 4, 2) := by decide +kernel
theorem dL_law_499 : decode cL_law 499 = .ok (.iconst 2, 1) := by decide +kernel
theorem dL_law_500 : decode cL_law 500 = .ok (.iadd, 1) := by decide +kernel
theorem dL_law_501 : decode cL_law 501 = .ok (.iaload, 1) := by decide +kernel
theorem dL_law_502 : decode cL_law 502 = .ok (.aload_n 0, 1) := by decide +kernel
theorem dL_law_503 : decode cL_law 503 = .ok (.iload 4, 2) := by decide +kernel
theorem dL_law_505 : decode cL_law 505 = .ok (.iconst 3, 1) := by decide +kernel
theorem dL_law_506 : decode cL_law 506 = .ok (.iadd, 1) := by decide +kernel
theorem dL_law_507 : decode cL_law 507 = .ok (.iaload, 1) := by decide +kernel
theorem dL_law_508 : decode cL_law 508 = .ok (.aload_n 0, 1) := by decide +kernel
theorem dL_law_509 : decode cL_law 509 = .ok (.iload 4, 2) := by decide +kernel
theorem dL_law_511 : decode cL_law 511 = .ok (.iconst 4, 1) := by decide +kernel
theorem dL_law_512 : decode cL_law 512 = .ok (.iadd, 1) := by decide +kernel
theorem dL_law_513 : decode cL_law 513 = .ok (.iaload, 1) := by decide +kernel
theorem dL_law_514 : decode cL_law 514 = .ok (.invokevirtual 88, 3) := by decide +kernel
theorem dL_law_517 : decode cL_law 517 = .ok (.aload_n 2, 1) := by decide +kernel
theorem dL_law_518 : decode cL_law 518 = .ok (.aload_n 0, 1) := by decide +kernel
theorem dL_law_519 : decode cL_law 519 = .ok (.iload 4, 2) := by decide +kernel
theorem dL_law_521 : decode cL_law 521 = .ok (.iconst 1, 1) := by decide +kernel
theorem dL_law_522 : decode cL_law 522 = .ok (.iadd, 1) := by decide +kernel
theorem dL_law_523 : decode cL_law 523 = .ok (.iaload, 1) := by decide +kernel
theorem dL_law_524 : decode cL_law 524 = .ok (.aload_n 0, 1) := by decide +kernel
theorem dL_law_525 : decode cL_law 525 = .ok (.iload 4, 2) := by decide +kernel
theorem dL_law_527 : decode cL_law 527 = .ok (.iconst 2, 1) := by decide +kernel
theorem dL_law_528 : decode cL_law 528 = .ok (.iadd, 1) := by decide +kernel
theorem dL_law_529 : decode cL_law 529 = .ok (.iaload, 1) := by decide +kernel
theorem dL_law_530 : decode cL_law 530 = .ok (.aload_n 0, 1) := by decide +kernel
theorem dL_law_531 : decode cL_law 531 = .ok (.iload 4, 2) := by decide +kernel
theorem dL_law_533 : decode cL_law 533 = .ok (.iconst 3, 1) := by decide +kernel
theorem dL_law_534 : decode cL_law 534 = .ok (.iadd, 1) := by decide +kernel
theorem dL_law_535 : decode cL_law 535 = .ok (.iaload, 1) := by decide +kernel
theorem dL_law_536 : decode cL_law 536 = .ok (.aload_n 0, 1) := by decide +kernel
theorem dL_law_537 : decode cL_law 537 = .ok (.iload 4, 2) := by decide +kernel
theorem dL_law_539 : decode cL_law 539 = .ok (.iconst 4, 1) := by decide +kernel
theorem dL_law_540 : decode cL_law 540 = .ok (.iadd, 1) := by decide +kernel
theorem dL_law_541 : decode cL_law 541 = .ok (.iaload, 1) := by decide +kernel
theorem dL_law_542 : decode cL_law 542 = .ok (.invokevirtual 92, 3) := by decide +kernel
theorem dL_law_545 : decode cL_law 545 = .ok (.lcmp, 1) := by decide +kernel
theorem dL_law_546 : decode cL_law 546 = .ok (.ifCond .eq 85, 3) := by decide +kernel
theorem dL_law_549 : decode cL_law 549 = .ok (.iconst 0, 1) := by decide +kernel
theorem dL_law_550 : decode cL_law 550 = .ok (.ireturn, 1) := by decide +kernel
theorem dL_law_551 : decode cL_law 551 = .ok (.aload_n 1, 1) := by decide +kernel
theorem dL_law_552 : decode cL_law 552 = .ok (.aload_n 0, 1) := by decide +kernel
theorem dL_law_553 : decode cL_law 553 = .ok (.iload 4, 2) := by decide +kernel
theorem dL_law_555 : decode cL_law 555 = .ok (.iconst 1, 1) := by decide +kernel
theorem dL_law_556 : decode cL_law 556 = .ok (.iadd, 1) := by decide +kernel
theorem dL_law_557 : decode cL_law 557 = .ok (.iaload, 1) := by decide +kernel
theorem dL_law_558 : decode cL_law 558 = .ok (.aload_n 3, 1) := by decide +kernel
theorem dL_law_559 : decode cL_law 559 = .ok (.invokestatic 93, 3) := by decide +kernel
theorem dL_law_562 : decode cL_law 562 = .ok (.istore 5, 2) := by decide +kernel
theorem dL_law_564 : decode cL_law 564 = .ok (.aload_n 2, 1) := by decide +kernel
theorem dL_law_565 : decode cL_law 565 = .ok (.aload_n 0, 1) := by decide +kernel
theorem dL_law_566 : decode cL_law 566 = .ok (.iload 4, 2) := by decide +kernel
theorem dL_law_568 : decode cL_law 568 = .ok (.iconst 1, 1) := by decide +kernel
theorem dL_law_569 : decode cL_law 569 = .ok (.iadd, 1) := by decide +kernel
theorem dL_law_570 : decode cL_law 570 = .ok (.iaload, 1) := by decide +kernel
theorem dL_law_571 : decode cL_law 571 = .ok (.invokevirtual 96, 3) := by decide +kernel
theorem dL_law_574 : decode cL_law 574 = .ok (.lstore 6, 2) := by decide +kernel
theorem dL_law_576 : decode cL_law 576 = .ok (.aload_n 2, 1) := by decide +kernel
theorem dL_law_577 : decode cL_law 577 = .ok (.invokevirtual 37, 3) := by decide +kernel
theorem dL_law_580 : decode cL_law 580 = .ok (.iload 5, 2) := by decide +kernel
theorem dL_law_582 : decode cL_law 582 = .ok (.if_icmp .eq 5, 3) := by decide +kernel
theorem dL_law_585 : decode cL_law 585 = .ok (.iconst 0, 1) := by decide +kernel
theorem dL_law_586 : decode cL_law 586 = .ok (.ireturn, 1) := by decide +kernel
theorem dL_law_587 : decode cL_law 587 = .ok (.iload 5, 2) := by decide +kernel
theorem dL_law_589 : decode cL_law 589 = .ok (.ifCond .ne 14, 3) := by decide +kernel
theorem dL_law_592 : decode cL_law 592 = .ok (.aload_n 3, 1) := by decide +kernel
theorem dL_law_593 : decode cL_law 593 = .ok (.iconst 0, 1) := by decide +kernel
theorem dL_law_594 : decode cL_law 594 = .ok (.laload, 1) := by decide +kernel
theorem dL_law_595 : decode cL_law 595 = .ok (.lload 6, 2) := by decide +kernel
theorem dL_law_597 : decode cL_law 597 = .ok (.lcmp, 1) := by decide +kernel
theorem dL_law_598 : decode cL_law 598 = .ok (.ifCond .eq 5, 3) := by decide +kernel
theorem dL_law_601 : decode cL_law 601 = .ok (.iconst 0, 1) := by decide +kernel
theorem dL_law_602 : decode cL_law 602 = .ok (.ireturn, 1) := by decide +kernel
theorem dL_law_603 : decode cL_law 603 = .ok (.goto 28, 3) := by decide +kernel
theorem dL_law_606 : decode cL_law 606 = .ok (.aload_n 1, 1) := by decide +kernel
theorem dL_law_607 : decode cL_law 607 = .ok (.aload_n 0, 1) := by decide +kernel
theorem dL_law_608 : decode cL_law 608 = .ok (.iload 4, 2) := by decide +kernel
theorem dL_law_610 : decode cL_law 610 = .ok (.iconst 1, 1) := by decide +kernel
theorem dL_law_611 : decode cL_law 611 = .ok (.iadd, 1) := by decide +kernel
theorem dL_law_612 : decode cL_law 612 = .ok (.iaload, 1) := by decide +kernel
theorem dL_law_613 : decode cL_law 613 = .ok (.invokevirtual 97, 3) := by decide +kernel
theorem dL_law_616 : decode cL_law 616 = .ok (.aload_n 2, 1) := by decide +kernel
theorem dL_law_617 : decode cL_law 617 = .ok (.aload_n 0, 1) := by decide +kernel
theorem dL_law_618 : decode cL_law 618 = .ok (.iload 4, 2) := by decide +kernel
theorem dL_law_620 : decode cL_law 620 = .ok (.iconst 1, 1) := by decide +kernel
theorem dL_law_621 : decode cL_law 621 = .ok (.iadd, 1) := by decide +kernel
theorem dL_law_622 : decode cL_law 622 = .ok (.iaload, 1) := by decide +kernel
theorem dL_law_623 : decode cL_law 623 = .ok (.invokevirtual 101, 3) := by decide +kernel
theorem dL_law_626 : decode cL_law 626 = .ok (.if_icmp .eq 5, 3) := by decide +kernel
theorem dL_law_629 : decode cL_law 629 = .ok (.iconst 0, 1) := by decide +kernel
theorem dL_law_630 : decode cL_law 630 = .ok (.ireturn, 1) := by decide +kernel
theorem dL_law_631 : decode cL_law 631 = .ok (.iinc 4 5, 3) := by decide +kernel
theorem dL_law_634 : decode cL_law 634 = .ok (.goto (-591), 3) := by decide +kernel
theorem dL_law_637 : decode cL_law 637 = .ok (.iconst 1, 1) := by decide +kernel
theorem dL_law_638 : decode cL_law 638 = .ok (.ireturn, 1) := by decide +kernel
abbrev vwCl : List vw_C := [(RX0, TX0, 6)]
end
section
/-! my names: the reference (Y1), CoefTurns.sum and the law's sum, which the printed names lack: written by a program of mine -/
def RY1 : String := "CoefTurnsModel"
def TY1 : u_T := fun k => match k with
  | 0 => ("CoefTurnsModel", "thrown", "I", false)
  | 1 => ("CoefTurnsModel", "w", "I", false)
  | 2 => ("CoefTurnsModel", "h", "I", false)
  | 3 => ("CoefTurnsModel", "keptW", "I", false)
  | 4 => ("CoefTurnsModel", "keptH", "I", false)
  | 5 => ("CoefTurnsModel", "plane", "[I", true)
  | 6 => ("CoefTurnsModel", "kept", "[I", true)
  | _ => ("CoefTurnsModel", "moved", "[I", true)
def tyY1 : Nat → FieldType := fun k => match k with
  | 0 => .int
  | 1 => .int
  | 2 => .int
  | 3 => .int
  | 4 => .int
  | 5 => .array .int
  | 6 => .array .int
  | _ => .array .int
abbrev wsY10 : List Cond := u_ws RY1 TY1 8
theorem nmY1 : ∀ a, a < 8 → ∀ b, b < 8 → a ≠ b → (TY1 a).2.1 ≠ (TY1 b).2.1 := by decide +kernel
theorem tyY1_ok : ∀ k, k < 8 → parseFieldDescriptor (TY1 k).2.2.1 = some (tyY1 k) := by decide +kernel
abbrev vwCm : List vw_C := [(RX0, TX0, 6), (RY1, TY1, 8)]
abbrev cY1_init : ByteArray := prog_3_method_1_code
def yY1_init : MethodName := ⟨RY1, "<init>", "(II)V"⟩
abbrev cY1_thrown : ByteArray := prog_3_method_2_code
def yY1_thrown : MethodName := ⟨RY1, "thrown", "()I"⟩
abbrev cY1_near : ByteArray := prog_3_method_3_code
def yY1_near : MethodName := ⟨RY1, "near", "(I)I"⟩
abbrev cY1_isBlock : ByteArray := prog_3_method_4_code
def yY1_isBlock : MethodName := ⟨RY1, "isBlock", "(II)Z"⟩
abbrev cY1_isPlace : ByteArray := prog_3_method_5_code
def yY1_isPlace : MethodName := ⟨RY1, "isPlace", "(I)Z"⟩
abbrev cY1_block : ByteArray := prog_3_method_6_code
def yY1_block : MethodName := ⟨RY1, "block", "(II)I"⟩
abbrev cY1_put : ByteArray := prog_3_method_7_code
def yY1_put : MethodName := ⟨RY1, "put", "(IIII)V"⟩
abbrev cY1_fill : ByteArray := prog_3_method_8_code
def yY1_fill : MethodName := ⟨RY1, "fill", "(I)V"⟩
abbrev cY1_become : ByteArray := prog_3_method_9_code
def yY1_become : MethodName := ⟨RY1, "become", "(II)V"⟩
abbrev cY1_transposeAll : ByteArray := prog_3_method_10_code
def yY1_transposeAll : MethodName := ⟨RY1, "transposeAll", "()V"⟩
abbrev cY1_mirrorAll : ByteArray := prog_3_method_11_code
def yY1_mirrorAll : MethodName := ⟨RY1, "mirrorAll", "()V"⟩
abbrev cY1_flipAll : ByteArray := prog_3_method_12_code
def yY1_flipAll : MethodName := ⟨RY1, "flipAll", "()V"⟩
abbrev cY1_transpose : ByteArray := prog_3_method_13_code
def yY1_transpose : MethodName := ⟨RY1, "transpose", "()V"⟩
abbrev cY1_mirror : ByteArray := prog_3_method_14_code
def yY1_mirror : MethodName := ⟨RY1, "mirror", "()V"⟩
abbrev cY1_flip : ByteArray := prog_3_method_15_code
def yY1_flip : MethodName := ⟨RY1, "flip", "()V"⟩
abbrev cY1_turn : ByteArray := prog_3_method_16_code
def yY1_turn : MethodName := ⟨RY1, "turn", "(I)V"⟩
abbrev cY1_crop : ByteArray := prog_3_method_17_code
def yY1_crop : MethodName := ⟨RY1, "crop", "(IIII)Z"⟩
abbrev cY1_swap : ByteArray := prog_3_method_18_code
def yY1_swap : MethodName := ⟨RY1, "swap", "(IIII)Z"⟩
abbrev cY1_keep : ByteArray := prog_3_method_19_code
def yY1_keep : MethodName := ⟨RY1, "keep", "()V"⟩
abbrev cY1_restore : ByteArray := prog_3_method_20_code
def yY1_restore : MethodName := ⟨RY1, "restore", "()V"⟩
abbrev cY1_differ : ByteArray := prog_3_method_21_code
def yY1_differ : MethodName := ⟨RY1, "differ", "()I"⟩
abbrev cY1_at : ByteArray := prog_3_method_22_code
def yY1_at : MethodName := ⟨RY1, "at", "(III)I"⟩
abbrev cY1_four : ByteArray := prog_3_method_23_code
def yY1_four : MethodName := ⟨RY1, "four", "(IIII)J"⟩
abbrev cY1_sum : ByteArray := prog_3_method_24_code
def yY1_sum : MethodName := ⟨RY1, "sum", "(I)J"⟩
abbrev cY1_lookAll : ByteArray := prog_3_method_25_code
def yY1_lookAll : MethodName := ⟨RY1, "lookAll", "(Z)I"⟩
abbrev cY1_look : ByteArray := prog_3_method_26_code
def yY1_look : MethodName := ⟨RY1, "look", "(I)I"⟩
abbrev cX0_sum : ByteArray := prog_1_method_15_code
def yX0_sum : MethodName := ⟨RX0, "sum", "(I)J"⟩
abbrev cL_sum : ByteArray := method_4_code
def yL_sum : MethodName := ⟨RL, "sum", "(LCoefTurns;I[J)I"⟩
def wsY1_near : List Cond := .code yY1_near cY1_near 1 (some .int) :: ([])
def wsY1_init : List Cond := .code yY1_init cY1_init 3 none :: ([.methodLink RY1 1 objectInit, .instanceMethod objectInit, .code objectInit ⟨#[0xb1]⟩ 1 none, .arrayClass .int, .fieldLink RY1 7 "CoefTurnsModel" "plane" "[I", .fieldLink RY1 13 "CoefTurnsModel" "kept" "[I", .fieldLink RY1 16 "CoefTurnsModel" "moved" "[I", .fieldLink RY1 23 "CoefTurnsModel" "w" "I", .fieldLink RY1 27 "CoefTurnsModel" "h" "I", .fieldLink RY1 30 "CoefTurnsModel" "keptW" "I", .fieldLink RY1 33 "CoefTurnsModel" "keptH" "I", .methodLink RY1 19 yY1_near, .static yY1_near, .initialized RY1, .code yY1_near cY1_near 1 (some .int)] ++ wsY10)
def wsY1_thrown : List Cond := .code yY1_thrown cY1_thrown 1 (some .int) :: ([.fieldLink RY1 36 "CoefTurnsModel" "thrown" "I"] ++ wsY10)
def wsY1_isBlock : List Cond := .code yY1_isBlock cY1_isBlock 3 (some .boolean) :: ([.fieldLink RY1 23 "CoefTurnsModel" "w" "I", .fieldLink RY1 27 "CoefTurnsModel" "h" "I"] ++ wsY10)
def wsY1_isPlace : List Cond := .code yY1_isPlace cY1_isPlace 1 (some .boolean) :: ([])
def wsY1_block : List Cond := .code yY1_block cY1_block 2 (some .int) :: ([])
def wsY1_put : List Cond := .code yY1_put cY1_put 5 none :: ([.fieldLink RY1 36 "CoefTurnsModel" "thrown" "I", .fieldLink RY1 7 "CoefTurnsModel" "plane" "[I", .methodLink RY1 39 yY1_isBlock, .instanceMethod yY1_isBlock, .selects RY1 yY1_isBlock yY1_isBlock, .initialized RY1, .code yY1_isBlock cY1_isBlock 3 (some .boolean), .fieldLink RY1 23 "CoefTurnsModel" "w" "I", .fieldLink RY1 27 "CoefTurnsModel" "h" "I", .methodLink RY1 43 yY1_isPlace, .static yY1_isPlace, .code yY1_isPlace cY1_isPlace 1 (some .boolean), .methodLink RY1 47 yY1_block, .static yY1_block, .code yY1_block cY1_block 2 (some .int)] ++ wsY10)
def wsY1_fill : List Cond := .code yY1_fill cY1_fill 8 none :: ([.fieldLink RY1 36 "CoefTurnsModel" "thrown" "I", .fieldLink RY1 27 "CoefTurnsModel" "h" "I", .fieldLink RY1 23 "CoefTurnsModel" "w" "I", .constantLong RY1 51 (40503), .constantLong RY1 53 (4294967295), .constantLong RY1 55 (2654435761), .fieldLink RY1 7 "CoefTurnsModel" "plane" "[I", .constantLong RY1 57 (2047), .methodLink RY1 47 yY1_block, .static yY1_block, .initialized RY1, .code yY1_block cY1_block 2 (some .int)] ++ wsY10)
def wsY1_become : List Cond := .code yY1_become cY1_become 4 none :: ([.fieldLink RY1 23 "CoefTurnsModel" "w" "I", .fieldLink RY1 27 "CoefTurnsModel" "h" "I", .fieldLink RY1 7 "CoefTurnsModel" "plane" "[I", .fieldLink RY1 16 "CoefTurnsModel" "moved" "[I"] ++ wsY10)
def wsY1_transposeAll : List Cond := .code yY1_transposeAll cY1_transposeAll 4 none :: ([.fieldLink RY1 23 "CoefTurnsModel" "w" "I", .fieldLink RY1 27 "CoefTurnsModel" "h" "I", .fieldLink RY1 16 "CoefTurnsModel" "moved" "[I", .fieldLink RY1 7 "CoefTurnsModel" "plane" "[I", .methodLink RY1 47 yY1_block, .static yY1_block, .initialized RY1, .code yY1_block cY1_block 2 (some .int), .methodLink RY1 59 yY1_become, .instanceMethod yY1_become, .selects RY1 yY1_become yY1_become, .code yY1_become cY1_become 4 none] ++ wsY10)
def wsY1_mirrorAll : List Cond := .code yY1_mirrorAll cY1_mirrorAll 5 none :: ([.fieldLink RY1 27 "CoefTurnsModel" "h" "I", .fieldLink RY1 23 "CoefTurnsModel" "w" "I", .fieldLink RY1 7 "CoefTurnsModel" "plane" "[I", .fieldLink RY1 16 "CoefTurnsModel" "moved" "[I", .methodLink RY1 47 yY1_block, .static yY1_block, .initialized RY1, .code yY1_block cY1_block 2 (some .int), .methodLink RY1 59 yY1_become, .instanceMethod yY1_become, .selects RY1 yY1_become yY1_become, .code yY1_become cY1_become 4 none] ++ wsY10)
def wsY1_flipAll : List Cond := .code yY1_flipAll cY1_flipAll 5 none :: ([.fieldLink RY1 27 "CoefTurnsModel" "h" "I", .fieldLink RY1 23 "CoefTurnsModel" "w" "I", .fieldLink RY1 7 "CoefTurnsModel" "plane" "[I", .fieldLink RY1 16 "CoefTurnsModel" "moved" "[I", .methodLink RY1 47 yY1_block, .static yY1_block, .initialized RY1, .code yY1_block cY1_block 2 (some .int), .methodLink RY1 59 yY1_become, .instanceMethod yY1_become, .selects RY1 yY1_become yY1_become, .code yY1_become cY1_become 4 none] ++ wsY10)
def wsY1_transpose : List Cond := .code yY1_transpose cY1_transpose 1 none :: ([.fieldLink RY1 36 "CoefTurnsModel" "thrown" "I", .methodLink RY1 63 yY1_transposeAll, .instanceMethod yY1_transposeAll, .selects RY1 yY1_transposeAll yY1_transposeAll, .initialized RY1, .code yY1_transposeAll cY1_transposeAll 4 none, .fieldLink RY1 23 "CoefTurnsModel" "w" "I", .fieldLink RY1 27 "CoefTurnsModel" "h" "I", .fieldLink RY1 16 "CoefTurnsModel" "moved" "[I", .fieldLink RY1 7 "CoefTurnsModel" "plane" "[I", .methodLink RY1 47 yY1_block, .static yY1_block, .code yY1_block cY1_block 2 (some .int), .methodLink RY1 59 yY1_become, .instanceMethod yY1_become, .selects RY1 yY1_become yY1_become, .code yY1_become cY1_become 4 none] ++ wsY10)
def wsY1_mirror : List Cond := .code yY1_mirror cY1_mirror 1 none :: ([.fieldLink RY1 36 "CoefTurnsModel" "thrown" "I", .methodLink RY1 66 yY1_mirrorAll, .instanceMethod yY1_mirrorAll, .selects RY1 yY1_mirrorAll yY1_mirrorAll, .initialized RY1, .code yY1_mirrorAll cY1_mirrorAll 5 none, .fieldLink RY1 27 "CoefTurnsModel" "h" "I", .fieldLink RY1 23 "CoefTurnsModel" "w" "I", .fieldLink RY1 7 "CoefTurnsModel" "plane" "[I", .fieldLink RY1 16 "CoefTurnsModel" "moved" "[I", .methodLink RY1 47 yY1_block, .static yY1_block, .code yY1_block cY1_block 2 (some .int), .methodLink RY1 59 yY1_become, .instanceMethod yY1_become, .selects RY1 yY1_become yY1_become, .code yY1_become cY1_become 4 none] ++ wsY10)
def wsY1_flip : List Cond := .code yY1_flip cY1_flip 1 none :: ([.fieldLink RY1 36 "CoefTurnsModel" "thrown" "I", .methodLink RY1 69 yY1_flipAll, .instanceMethod yY1_flipAll, .selects RY1 yY1_flipAll yY1_flipAll, .initialized RY1, .code yY1_flipAll cY1_flipAll 5 none, .fieldLink RY1 27 "CoefTurnsModel" "h" "I", .fieldLink RY1 23 "CoefTurnsModel" "w" "I", .fieldLink RY1 7 "CoefTurnsModel" "plane" "[I", .fieldLink RY1 16 "CoefTurnsModel" "moved" "[I", .methodLink RY1 47 yY1_block, .static yY1_block, .code yY1_block cY1_block 2 (some .int), .methodLink RY1 59 yY1_become, .instanceMethod yY1_become, .selects RY1 yY1_become yY1_become, .code yY1_become cY1_become 4 none] ++ wsY10)
def wsY1_turn : List Cond := .code yY1_turn cY1_turn 4 none :: ([.fieldLink RY1 36 "CoefTurnsModel" "thrown" "I", .methodLink RY1 63 yY1_transposeAll, .instanceMethod yY1_transposeAll, .selects RY1 yY1_transposeAll yY1_transposeAll, .initialized RY1, .code yY1_transposeAll cY1_transposeAll 4 none, .fieldLink RY1 23 "CoefTurnsModel" "w" "I", .fieldLink RY1 27 "CoefTurnsModel" "h" "I", .fieldLink RY1 16 "CoefTurnsModel" "moved" "[I", .fieldLink RY1 7 "CoefTurnsModel" "plane" "[I", .methodLink RY1 47 yY1_block, .static yY1_block, .code yY1_block cY1_block 2 (some .int), .methodLink RY1 59 yY1_become, .instanceMethod yY1_become, .selects RY1 yY1_become yY1_become, .code yY1_become cY1_become 4 none, .methodLink RY1 66 yY1_mirrorAll, .instanceMethod yY1_mirrorAll, .selects RY1 yY1_mirrorAll yY1_mirrorAll, .code yY1_mirrorAll cY1_mirrorAll 5 none] ++ wsY10)
def wsY1_crop : List Cond := .code yY1_crop cY1_crop 8 (some .boolean) :: ([.fieldLink RY1 36 "CoefTurnsModel" "thrown" "I", .fieldLink RY1 23 "CoefTurnsModel" "w" "I", .fieldLink RY1 27 "CoefTurnsModel" "h" "I", .fieldLink RY1 16 "CoefTurnsModel" "moved" "[I", .fieldLink RY1 7 "CoefTurnsModel" "plane" "[I", .methodLink RY1 47 yY1_block, .static yY1_block, .initialized RY1, .code yY1_block cY1_block 2 (some .int), .methodLink RY1 59 yY1_become, .instanceMethod yY1_become, .selects RY1 yY1_become yY1_become, .code yY1_become cY1_become 4 none] ++ wsY10)
def wsY1_swap : List Cond := .code yY1_swap cY1_swap 7 (some .boolean) :: ([.fieldLink RY1 36 "CoefTurnsModel" "thrown" "I", .fieldLink RY1 7 "CoefTurnsModel" "plane" "[I", .methodLink RY1 39 yY1_isBlock, .instanceMethod yY1_isBlock, .selects RY1 yY1_isBlock yY1_isBlock, .initialized RY1, .code yY1_isBlock cY1_isBlock 3 (some .boolean), .fieldLink RY1 23 "CoefTurnsModel" "w" "I", .fieldLink RY1 27 "CoefTurnsModel" "h" "I", .methodLink RY1 47 yY1_block, .static yY1_block, .code yY1_block cY1_block 2 (some .int)] ++ wsY10)
def wsY1_keep : List Cond := .code yY1_keep cY1_keep 2 none :: ([.fieldLink RY1 36 "CoefTurnsModel" "thrown" "I", .fieldLink RY1 23 "CoefTurnsModel" "w" "I", .fieldLink RY1 30 "CoefTurnsModel" "keptW" "I", .fieldLink RY1 27 "CoefTurnsModel" "h" "I", .fieldLink RY1 33 "CoefTurnsModel" "keptH" "I", .fieldLink RY1 13 "CoefTurnsModel" "kept" "[I", .fieldLink RY1 7 "CoefTurnsModel" "plane" "[I"] ++ wsY10)
def wsY1_restore : List Cond := .code yY1_restore cY1_restore 2 none :: ([.fieldLink RY1 36 "CoefTurnsModel" "thrown" "I", .fieldLink RY1 30 "CoefTurnsModel" "keptW" "I", .fieldLink RY1 23 "CoefTurnsModel" "w" "I", .fieldLink RY1 33 "CoefTurnsModel" "keptH" "I", .fieldLink RY1 27 "CoefTurnsModel" "h" "I", .fieldLink RY1 7 "CoefTurnsModel" "plane" "[I", .fieldLink RY1 13 "CoefTurnsModel" "kept" "[I"] ++ wsY10)
def wsY1_differ : List Cond := .code yY1_differ cY1_differ 5 (some .int) :: ([.fieldLink RY1 36 "CoefTurnsModel" "thrown" "I", .fieldLink RY1 23 "CoefTurnsModel" "w" "I", .fieldLink RY1 30 "CoefTurnsModel" "keptW" "I", .fieldLink RY1 27 "CoefTurnsModel" "h" "I", .fieldLink RY1 33 "CoefTurnsModel" "keptH" "I", .fieldLink RY1 7 "CoefTurnsModel" "plane" "[I", .fieldLink RY1 13 "CoefTurnsModel" "kept" "[I", .methodLink RY1 47 yY1_block, .static yY1_block, .initialized RY1, .code yY1_block cY1_block 2 (some .int)] ++ wsY10)
def wsY1_at : List Cond := .code yY1_at cY1_at 4 (some .int) :: ([.fieldLink RY1 36 "CoefTurnsModel" "thrown" "I", .fieldLink RY1 7 "CoefTurnsModel" "plane" "[I", .methodLink RY1 39 yY1_isBlock, .instanceMethod yY1_isBlock, .selects RY1 yY1_isBlock yY1_isBlock, .initialized RY1, .code yY1_isBlock cY1_isBlock 3 (some .boolean), .fieldLink RY1 23 "CoefTurnsModel" "w" "I", .fieldLink RY1 27 "CoefTurnsModel" "h" "I", .methodLink RY1 43 yY1_isPlace, .static yY1_isPlace, .code yY1_isPlace cY1_isPlace 1 (some .boolean), .methodLink RY1 47 yY1_block, .static yY1_block, .code yY1_block cY1_block 2 (some .int)] ++ wsY10)
def wsY1_four : List Cond := .code yY1_four cY1_four 8 (some .long) :: ([.fieldLink RY1 36 "CoefTurnsModel" "thrown" "I", .fieldLink RY1 7 "CoefTurnsModel" "plane" "[I", .constantLong RY1 72 (65535), .methodLink RY1 39 yY1_isBlock, .instanceMethod yY1_isBlock, .selects RY1 yY1_isBlock yY1_isBlock, .initialized RY1, .code yY1_isBlock cY1_isBlock 3 (some .boolean), .fieldLink RY1 23 "CoefTurnsModel" "w" "I", .fieldLink RY1 27 "CoefTurnsModel" "h" "I", .methodLink RY1 47 yY1_block, .static yY1_block, .code yY1_block cY1_block 2 (some .int)] ++ wsY10)
def wsY1_sum : List Cond := .code yY1_sum cY1_sum 6 (some .long) :: ([.fieldLink RY1 36 "CoefTurnsModel" "thrown" "I", .fieldLink RY1 27 "CoefTurnsModel" "h" "I", .fieldLink RY1 23 "CoefTurnsModel" "w" "I", .fieldLink RY1 7 "CoefTurnsModel" "plane" "[I", .methodLink RY1 43 yY1_isPlace, .static yY1_isPlace, .initialized RY1, .code yY1_isPlace cY1_isPlace 1 (some .boolean), .methodLink RY1 47 yY1_block, .static yY1_block, .code yY1_block cY1_block 2 (some .int)] ++ wsY10)
def wsY1_lookAll : List Cond := .code yY1_lookAll cY1_lookAll 8 (some .int) :: ([.fieldLink RY1 27 "CoefTurnsModel" "h" "I", .fieldLink RY1 23 "CoefTurnsModel" "w" "I", .fieldLink RY1 7 "CoefTurnsModel" "plane" "[I", .methodLink RY1 47 yY1_block, .static yY1_block, .initialized RY1, .code yY1_block cY1_block 2 (some .int)] ++ wsY10)
def wsY1_look : List Cond := .code yY1_look cY1_look 2 (some .int) :: ([.fieldLink RY1 36 "CoefTurnsModel" "thrown" "I", .fieldLink RY1 23 "CoefTurnsModel" "w" "I", .fieldLink RY1 27 "CoefTurnsModel" "h" "I", .fieldLink RY1 30 "CoefTurnsModel" "keptW" "I", .fieldLink RY1 33 "CoefTurnsModel" "keptH" "I", .methodLink RY1 74 yY1_lookAll, .instanceMethod yY1_lookAll, .selects RY1 yY1_lookAll yY1_lookAll, .initialized RY1, .code yY1_lookAll cY1_lookAll 8 (some .int), .fieldLink RY1 7 "CoefTurnsModel" "plane" "[I", .methodLink RY1 47 yY1_block, .static yY1_block, .code yY1_block cY1_block 2 (some .int)] ++ wsY10)
def wsX0_sum : List Cond := .code yX0_sum cX0_sum 8 (some .long) :: ([.classLink RX0 41 "java/lang/IndexOutOfBoundsException", .initialized "java/lang/IndexOutOfBoundsException", .fieldLink RX0 17 "CoefTurns" "height" "I", .fieldLink RX0 13 "CoefTurns" "width" "I", .fieldLink RX0 26 "CoefTurns" "cells" "[I", .methodLink RX0 37 yX0_isPlace, .static yX0_isPlace, .initialized RX0, .code yX0_isPlace cX0_isPlace 1 (some .boolean), .methodLink RX0 53 yX0_blockStart, .static yX0_blockStart, .code yX0_blockStart cX0_blockStart 2 (some .int)] ++ wsX00 ++ (vx_atS RX0 45 "java/lang/IndexOutOfBoundsException" ["java/lang/RuntimeException", "java/lang/Exception"]).filter goodWord)
def wsL_sum : List Cond := .codeWith yL_sum cL_sum 4 (some .int) [(0, 8, 11, 13)] :: ([.classLink RL 13 "java/lang/IndexOutOfBoundsException", .methodLink RL 17 yX0_sum, .instanceMethod yX0_sum, .selects RX0 yX0_sum yX0_sum, .initialized RX0, .code yX0_sum cX0_sum 8 (some .long), .classLink RX0 41 "java/lang/IndexOutOfBoundsException", .initialized "java/lang/IndexOutOfBoundsException", .fieldLink RX0 17 "CoefTurns" "height" "I", .fieldLink RX0 13 "CoefTurns" "width" "I", .fieldLink RX0 26 "CoefTurns" "cells" "[I", .methodLink RX0 37 yX0_isPlace, .static yX0_isPlace, .code yX0_isPlace cX0_isPlace 1 (some .boolean), .methodLink RX0 53 yX0_blockStart, .static yX0_blockStart, .code yX0_blockStart cX0_blockStart 2 (some .int)] ++ wsX00 ++ (vx_atS RX0 45 "java/lang/IndexOutOfBoundsException" ["java/lang/RuntimeException", "java/lang/Exception"]).filter goodWord)
-- words of callees among their callers'
set_option maxRecDepth 20000 in
theorem ggY1_init_Y1_near : GoodIn wsY1_init wsY1_near := goodIn_r _ [15] (by decide +kernel) (by decide +kernel)
set_option maxRecDepth 20000 in
theorem gY1_init_Y1_near : GoodIn wsY1_init (va_wsS RY1 19 yY1_near wsY1_near) := goodIn_app (goodIn_of _ (by decide +kernel)) ggY1_init_Y1_near
set_option maxRecDepth 20000 in
theorem ggY1_put_Y1_isBlock : GoodIn wsY1_put wsY1_isBlock := goodIn_r _ [7, 8, 9, 16, 17, 18, 19, 20, 21, 22, 23] (by decide +kernel) (by decide +kernel)
set_option maxRecDepth 20000 in
theorem gY1_put_Y1_isBlock : GoodIn wsY1_put (wsV RY1 39 RY1 yY1_isBlock wsY1_isBlock) := goodIn_app (goodIn_of _ (by decide +kernel)) ggY1_put_Y1_isBlock
set_option maxRecDepth 20000 in
theorem ggY1_put_Y1_isPlace : GoodIn wsY1_put wsY1_isPlace := goodIn_r _ [12] (by decide +kernel) (by decide +kernel)
set_option maxRecDepth 20000 in
theorem gY1_put_Y1_isPlace : GoodIn wsY1_put (va_wsS RY1 43 yY1_isPlace wsY1_isPlace) := goodIn_app (goodIn_of _ (by decide +kernel)) ggY1_put_Y1_isPlace
set_option maxRecDepth 20000 in
theorem ggY1_put_Y1_block : GoodIn wsY1_put wsY1_block := goodIn_r _ [15] (by decide +kernel) (by decide +kernel)
set_option maxRecDepth 20000 in
theorem gY1_put_Y1_block : GoodIn wsY1_put (va_wsS RY1 47 yY1_block wsY1_block) := goodIn_app (goodIn_of _ (by decide +kernel)) ggY1_put_Y1_block
set_option maxRecDepth 20000 in
theorem ggY1_fill_Y1_block : GoodIn wsY1_fill wsY1_block := goodIn_r _ [12] (by decide +kernel) (by decide +kernel)
set_option maxRecDepth 20000 in
theorem gY1_fill_Y1_block : GoodIn wsY1_fill (va_wsS RY1 47 yY1_block wsY1_block) := goodIn_app (goodIn_of _ (by decide +kernel)) ggY1_fill_Y1_block
set_option maxRecDepth 20000 in
theorem ggY1_transposeAll_Y1_block : GoodIn wsY1_transposeAll wsY1_block := goodIn_r _ [8] (by decide +kernel) (by decide +kernel)
set_option maxRecDepth 20000 in
theorem gY1_transposeAll_Y1_block : GoodIn wsY1_transposeAll (va_wsS RY1 47 yY1_block wsY1_block) := goodIn_app (goodIn_of _ (by decide +kernel)) ggY1_transposeAll_Y1_block
set_option maxRecDepth 20000 in
theorem ggY1_transposeAll_Y1_become : GoodIn wsY1_transposeAll wsY1_become := goodIn_r _ [12, 1, 2, 4, 3, 13, 14, 15, 16, 17, 18, 19, 20] (by decide +kernel) (by decide +kernel)
set_option maxRecDepth 20000 in
theorem gY1_transposeAll_Y1_become : GoodIn wsY1_transposeAll (wsV RY1 59 RY1 yY1_become wsY1_become) := goodIn_app (goodIn_of _ (by decide +kernel)) ggY1_transposeAll_Y1_become
set_option maxRecDepth 20000 in
theorem ggY1_mirrorAll_Y1_block : GoodIn wsY1_mirrorAll wsY1_block := goodIn_r _ [8] (by decide +kernel) (by decide +kernel)
set_option maxRecDepth 20000 in
theorem gY1_mirrorAll_Y1_block : GoodIn wsY1_mirrorAll (va_wsS RY1 47 yY1_block wsY1_block) := goodIn_app (goodIn_of _ (by decide +kernel)) ggY1_mirrorAll_Y1_block
set_option maxRecDepth 20000 in
theorem ggY1_mirrorAll_Y1_become : GoodIn wsY1_mirrorAll wsY1_become := goodIn_r _ [12, 2, 1, 3, 4, 13, 14, 15, 16, 17, 18, 19, 20] (by decide +kernel) (by decide +kernel)
set_option maxRecDepth 20000 in
theorem gY1_mirrorAll_Y1_become : GoodIn wsY1_mirrorAll (wsV RY1 59 RY1 yY1_become wsY1_become) := goodIn_app (goodIn_of _ (by decide +kernel)) ggY1_mirrorAll_Y1_become
set_option maxRecDepth 20000 in
theorem ggY1_flipAll_Y1_block : GoodIn wsY1_flipAll wsY1_block := goodIn_r _ [8] (by decide +kernel) (by decide +kernel)
set_option maxRecDepth 20000 in
theorem gY1_flipAll_Y1_block : GoodIn wsY1_flipAll (va_wsS RY1 47 yY1_block wsY1_block) := goodIn_app (goodIn_of _ (by decide +kernel)) ggY1_flipAll_Y1_block
set_option maxRecDepth 20000 in
theorem ggY1_flipAll_Y1_become : GoodIn wsY1_flipAll wsY1_become := goodIn_r _ [12, 2, 1, 3, 4, 13, 14, 15, 16, 17, 18, 19, 20] (by decide +kernel) (by decide +kernel)
set_option maxRecDepth 20000 in
theorem gY1_flipAll_Y1_become : GoodIn wsY1_flipAll (wsV RY1 59 RY1 yY1_become wsY1_become) := goodIn_app (goodIn_of _ (by decide +kernel)) ggY1_flipAll_Y1_become
set_option maxRecDepth 20000 in
theorem ggY1_transpose_Y1_transposeAll : GoodIn wsY1_transpose wsY1_transposeAll := goodIn_r _ [6, 7, 8, 9, 10, 11, 12, 5, 13, 14, 15, 16, 17, 18, 19, 20, 21, 22, 23, 24, 25] (by decide +kernel) (by decide +kernel)
set_option maxRecDepth 20000 in
theorem gY1_transpose_Y1_transposeAll : GoodIn wsY1_transpose (wsV RY1 63 RY1 yY1_transposeAll wsY1_transposeAll) := goodIn_app (goodIn_of _ (by decide +kernel)) ggY1_transpose_Y1_transposeAll
set_option maxRecDepth 20000 in
theorem ggY1_mirror_Y1_mirrorAll : GoodIn wsY1_mirror wsY1_mirrorAll := goodIn_r _ [6, 7, 8, 9, 10, 11, 12, 5, 13, 14, 15, 16, 17, 18, 19, 20, 21, 22, 23, 24, 25] (by decide +kernel) (by decide +kernel)
set_option maxRecDepth 20000 in
theorem gY1_mirror_Y1_mirrorAll : GoodIn wsY1_mirror (wsV RY1 66 RY1 yY1_mirrorAll wsY1_mirrorAll) := goodIn_app (goodIn_of _ (by decide +kernel)) ggY1_mirror_Y1_mirrorAll
set_option maxRecDepth 20000 in
theorem ggY1_flip_Y1_flipAll : GoodIn wsY1_flip wsY1_flipAll := goodIn_r _ [6, 7, 8, 9, 10, 11, 12, 5, 13, 14, 15, 16, 17, 18, 19, 20, 21, 22, 23, 24, 25] (by decide +kernel) (by decide +kernel)
set_option maxRecDepth 20000 in
theorem gY1_flip_Y1_flipAll : GoodIn wsY1_flip (wsV RY1 69 RY1 yY1_flipAll wsY1_flipAll) := goodIn_app (goodIn_of _ (by decide +kernel)) ggY1_flip_Y1_flipAll
set_option maxRecDepth 20000 in
theorem ggY1_turn_Y1_transposeAll : GoodIn wsY1_turn wsY1_transposeAll := goodIn_r _ [6, 7, 8, 9, 10, 11, 12, 5, 13, 14, 15, 16, 17, 22, 23, 24, 25, 26, 27, 28, 29] (by decide +kernel) (by decide +kernel)
set_option maxRecDepth 20000 in
theorem gY1_turn_Y1_transposeAll : GoodIn wsY1_turn (wsV RY1 63 RY1 yY1_transposeAll wsY1_transposeAll) := goodIn_app (goodIn_of _ (by decide +kernel)) ggY1_turn_Y1_transposeAll
set_option maxRecDepth 20000 in
theorem ggY1_turn_Y1_mirrorAll : GoodIn wsY1_turn wsY1_mirrorAll := goodIn_r _ [21, 8, 7, 10, 9, 11, 12, 5, 13, 14, 15, 16, 17, 22, 23, 24, 25, 26, 27, 28, 29] (by decide +kernel) (by decide +kernel)
set_option maxRecDepth 20000 in
theorem gY1_turn_Y1_mirrorAll : GoodIn wsY1_turn (wsV RY1 66 RY1 yY1_mirrorAll wsY1_mirrorAll) := goodIn_app (goodIn_of _ (by decide +kernel)) ggY1_turn_Y1_mirrorAll
set_option maxRecDepth 20000 in
theorem ggY1_crop_Y1_block : GoodIn wsY1_crop wsY1_block := goodIn_r _ [9] (by decide +kernel) (by decide +kernel)
set_option maxRecDepth 20000 in
theorem gY1_crop_Y1_block : GoodIn wsY1_crop (va_wsS RY1 47 yY1_block wsY1_block) := goodIn_app (goodIn_of _ (by decide +kernel)) ggY1_crop_Y1_block
set_option maxRecDepth 20000 in
theorem ggY1_crop_Y1_become : GoodIn wsY1_crop wsY1_become := goodIn_r _ [13, 2, 3, 5, 4, 14, 15, 16, 17, 18, 19, 20, 21] (by decide +kernel) (by decide +kernel)
set_option maxRecDepth 20000 in
theorem gY1_crop_Y1_become : GoodIn wsY1_crop (wsV RY1 59 RY1 yY1_become wsY1_become) := goodIn_app (goodIn_of _ (by decide +kernel)) ggY1_crop_Y1_become
set_option maxRecDepth 20000 in
theorem ggY1_swap_Y1_isBlock : GoodIn wsY1_swap wsY1_isBlock := goodIn_r _ [7, 8, 9, 13, 14, 15, 16, 17, 18, 19, 20] (by decide +kernel) (by decide +kernel)
set_option maxRecDepth 20000 in
theorem gY1_swap_Y1_isBlock : GoodIn wsY1_swap (wsV RY1 39 RY1 yY1_isBlock wsY1_isBlock) := goodIn_app (goodIn_of _ (by decide +kernel)) ggY1_swap_Y1_isBlock
set_option maxRecDepth 20000 in
theorem ggY1_swap_Y1_block : GoodIn wsY1_swap wsY1_block := goodIn_r _ [12] (by decide +kernel) (by decide +kernel)
set_option maxRecDepth 20000 in
theorem gY1_swap_Y1_block : GoodIn wsY1_swap (va_wsS RY1 47 yY1_block wsY1_block) := goodIn_app (goodIn_of _ (by decide +kernel)) ggY1_swap_Y1_block
set_option maxRecDepth 20000 in
theorem ggY1_differ_Y1_block : GoodIn wsY1_differ wsY1_block := goodIn_r _ [11] (by decide +kernel) (by decide +kernel)
set_option maxRecDepth 20000 in
theorem gY1_differ_Y1_block : GoodIn wsY1_differ (va_wsS RY1 47 yY1_block wsY1_block) := goodIn_app (goodIn_of _ (by decide +kernel)) ggY1_differ_Y1_block
set_option maxRecDepth 20000 in
theorem ggY1_at_Y1_isBlock : GoodIn wsY1_at wsY1_isBlock := goodIn_r _ [7, 8, 9, 16, 17, 18, 19, 20, 21, 22, 23] (by decide +kernel) (by decide +kernel)
set_option maxRecDepth 20000 in
theorem gY1_at_Y1_isBlock : GoodIn wsY1_at (wsV RY1 39 RY1 yY1_isBlock wsY1_isBlock) := goodIn_app (goodIn_of _ (by decide +kernel)) ggY1_at_Y1_isBlock
set_option maxRecDepth 20000 in
theorem ggY1_at_Y1_isPlace : GoodIn wsY1_at wsY1_isPlace := goodIn_r _ [12] (by decide +kernel) (by decide +kernel)
set_option maxRecDepth 20000 in
theorem gY1_at_Y1_isPlace : GoodIn wsY1_at (va_wsS RY1 43 yY1_isPlace wsY1_isPlace) := goodIn_app (goodIn_of _ (by decide +kernel)) ggY1_at_Y1_isPlace
set_option maxRecDepth 20000 in
theorem ggY1_at_Y1_block : GoodIn wsY1_at wsY1_block := goodIn_r _ [15] (by decide +kernel) (by decide +kernel)
set_option maxRecDepth 20000 in
theorem gY1_at_Y1_block : GoodIn wsY1_at (va_wsS RY1 47 yY1_block wsY1_block) := goodIn_app (goodIn_of _ (by decide +kernel)) ggY1_at_Y1_block
set_option maxRecDepth 20000 in
theorem ggY1_four_Y1_isBlock : GoodIn wsY1_four wsY1_isBlock := goodIn_r _ [8, 9, 10, 14, 15, 16, 17, 18, 19, 20, 21] (by decide +kernel) (by decide +kernel)
set_option maxRecDepth 20000 in
theorem gY1_four_Y1_isBlock : GoodIn wsY1_four (wsV RY1 39 RY1 yY1_isBlock wsY1_isBlock) := goodIn_app (goodIn_of _ (by decide +kernel)) ggY1_four_Y1_isBlock
set_option maxRecDepth 20000 in
theorem ggY1_four_Y1_block : GoodIn wsY1_four wsY1_block := goodIn_r _ [13] (by decide +kernel) (by decide +kernel)
set_option maxRecDepth 20000 in
theorem gY1_four_Y1_block : GoodIn wsY1_four (va_wsS RY1 47 yY1_block wsY1_block) := goodIn_app (goodIn_of _ (by decide +kernel)) ggY1_four_Y1_block
set_option maxRecDepth 20000 in
theorem ggY1_sum_Y1_isPlace : GoodIn wsY1_sum wsY1_isPlace := goodIn_r _ [8] (by decide +kernel) (by decide +kernel)
set_option maxRecDepth 20000 in
theorem gY1_sum_Y1_isPlace : GoodIn wsY1_sum (va_wsS RY1 43 yY1_isPlace wsY1_isPlace) := goodIn_app (goodIn_of _ (by decide +kernel)) ggY1_sum_Y1_isPlace
set_option maxRecDepth 20000 in
theorem ggY1_sum_Y1_block : GoodIn wsY1_sum wsY1_block := goodIn_r _ [11] (by decide +kernel) (by decide +kernel)
set_option maxRecDepth 20000 in
theorem gY1_sum_Y1_block : GoodIn wsY1_sum (va_wsS RY1 47 yY1_block wsY1_block) := goodIn_app (goodIn_of _ (by decide +kernel)) ggY1_sum_Y1_block
set_option maxRecDepth 20000 in
theorem ggY1_lookAll_Y1_block : GoodIn wsY1_lookAll wsY1_block := goodIn_r _ [7] (by decide +kernel) (by decide +kernel)
set_option maxRecDepth 20000 in
theorem gY1_lookAll_Y1_block : GoodIn wsY1_lookAll (va_wsS RY1 47 yY1_block wsY1_block) := goodIn_app (goodIn_of _ (by decide +kernel)) ggY1_lookAll_Y1_block
set_option maxRecDepth 20000 in
theorem ggY1_look_Y1_lookAll : GoodIn wsY1_look wsY1_lookAll := goodIn_r _ [10, 3, 2, 11, 12, 13, 9, 14, 15, 16, 17, 18, 19, 20, 21, 22] (by decide +kernel) (by decide +kernel)
set_option maxRecDepth 20000 in
theorem gY1_look_Y1_lookAll : GoodIn wsY1_look (wsV RY1 74 RY1 yY1_lookAll wsY1_lookAll) := goodIn_app (goodIn_of _ (by decide +kernel)) ggY1_look_Y1_lookAll
set_option maxRecDepth 20000 in
theorem ggX0_sum_X0_isPlace : GoodIn wsX0_sum wsX0_isPlace := goodIn_r _ [9] (by decide +kernel) (by decide +kernel)
set_option maxRecDepth 20000 in
theorem gX0_sum_X0_isPlace : GoodIn wsX0_sum (va_wsS RX0 37 yX0_isPlace wsX0_isPlace) := goodIn_app (goodIn_of _ (by decide +kernel)) ggX0_sum_X0_isPlace
set_option maxRecDepth 20000 in
theorem ggX0_sum_X0_blockStart : GoodIn wsX0_sum wsX0_blockStart := goodIn_r _ [12] (by decide +kernel) (by decide +kernel)
set_option maxRecDepth 20000 in
theorem gX0_sum_X0_blockStart : GoodIn wsX0_sum (va_wsS RX0 53 yX0_blockStart wsX0_blockStart) := goodIn_app (goodIn_of _ (by decide +kernel)) ggX0_sum_X0_blockStart
set_option maxRecDepth 20000 in
theorem ggL_sum_X0_sum : GoodIn wsL_sum wsX0_sum := goodIn_ca (goodIn_r _ [6, 7, 8, 9, 10, 11, 12, 13, 5, 14, 15, 16, 17, 18, 19, 20, 21, 22, 23] (by decide +kernel) (by decide +kernel)) (goodIn_sub (fun _ h => List.mem_cons_of_mem _ (List.mem_append_right _ h)) (by decide +kernel))
set_option maxRecDepth 20000 in
theorem gL_sum_X0_sum : GoodIn wsL_sum (wsV RL 17 RX0 yX0_sum wsX0_sum) := goodIn_app (goodIn_of _ (by decide +kernel)) ggL_sum_X0_sum
-- decode rows
theorem dY1_near_0 : decode cY1_near 0 = .ok (.iload_n 0, 1) := by decide +kernel
theorem dY1_near_1 : decode cY1_near 1 = .ok (.iconst 1, 1) := by decide +kernel
theorem dY1_near_2 : decode cY1_near 2 = .ok (.if_icmp .ge 7, 3) := by decide +kernel
theorem dY1_near_5 : decode cY1_near 5 = .ok (.iconst 1, 1) := by decide +kernel
theorem dY1_near_6 : decode cY1_near 6 = .ok (.goto 15, 3) := by decide +kernel
theorem dY1_near_9 : decode cY1_near 9 = .ok (.iload_n 0, 1) := by decide +kernel
theorem dY1_near_10 : decode cY1_near 10 = .ok (.bipush 8, 2) := by decide +kernel
theorem dY1_near_12 : decode cY1_near 12 = .ok (.if_icmp .le 8, 3) := by decide +kernel
theorem dY1_near_15 : decode cY1_near 15 = .ok (.bipush 8, 2) := by decide +kernel
theorem dY1_near_17 : decode cY1_near 17 = .ok (.goto 4, 3) := by decide +kernel
theorem dY1_near_20 : decode cY1_near 20 = .ok (.iload_n 0, 1) := by decide +kernel
theorem dY1_near_21 : decode cY1_near 21 = .ok (.ireturn, 1) := by decide +kernel
theorem dY1_init_0 : decode cY1_init 0 = .ok (.aload_n 0, 1) := by decide +kernel
theorem dY1_init_1 : decode cY1_init 1 = .ok (.invokespecial 1, 3) := by decide +kernel
theorem dY1_init_4 : decode cY1_init 4 = .ok (.aload_n 0, 1) := by decide +kernel
theorem dY1_init_5 : decode cY1_init 5 = .ok (.sipush 4096, 3) := by decide +kernel
theorem dY1_init_8 : decode cY1_init 8 = .ok (.newarray .int, 2) := by decide +kernel
theorem dY1_init_10 : decode cY1_init 10 = .ok (.putfield 7, 3) := by decide +kernel
theorem dY1_init_13 : decode cY1_init 13 = .ok (.aload_n 0, 1) := by decide +kernel
theorem dY1_init_14 : decode cY1_init 14 = .ok (.sipush 4096, 3) := by decide +kernel
theorem dY1_init_17 : decode cY1_init 17 = .ok (.newarray .int, 2) := by decide +kernel
theorem dY1_init_19 : decode cY1_init 19 = .ok (.putfield 13, 3) := by decide +kernel
theorem dY1_init_22 : decode cY1_init 22 = .ok (.aload_n 0, 1) := by decide +kernel
theorem dY1_init_23 : decode cY1_init 23 = .ok (.sipush 4096, 3) := by decide +kernel
theorem dY1_init_26 : decode cY1_init 26 = .ok (.newarray .int, 2) := by decide +kernel
theorem dY1_init_28 : decode cY1_init 28 = .ok (.putfield 16, 3) := by decide +kernel
theorem dY1_init_31 : decode cY1_init 31 = .ok (.aload_n 0, 1) := by decide +kernel
theorem dY1_init_32 : decode cY1_init 32 = .ok (.iload_n 1, 1) := by decide +kernel
theorem dY1_init_33 : decode cY1_init 33 = .ok (.invokestatic 19, 3) := by decide +kernel
theorem dY1_init_36 : decode cY1_init 36 = .ok (.putfield 23, 3) := by decide +kernel
theorem dY1_init_39 : decode cY1_init 39 = .ok (.aload_n 0, 1) := by decide +kernel
theorem dY1_init_40 : decode cY1_init 40 = .ok (.iload_n 2, 1) := by decide +kernel
theorem dY1_init_41 : decode cY1_init 41 = .ok (.invokestatic 19, 3) := by decide +kernel
theorem dY1_init_44 : decode cY1_init 44 = .ok (.putfield 27, 3) := by decide +kernel
theorem dY1_init_47 : decode cY1_init 47 = .ok (.aload_n 0, 1) := by decide +kernel
theorem dY1_init_48 : decode cY1_init 48 = .ok (.aload_n 0, 1) := by decide +kernel
theorem dY1_init_49 : decode cY1_init 49 = .ok (.getfield 23, 3) := by decide +kernel
theorem dY1_init_52 : decode cY1_init 52 = .ok (.putfield 30, 3) := by decide +kernel
theorem dY1_init_55 : decode cY1_init 55 = .ok (.aload_n 0, 1) := by decide +kernel
theorem dY1_init_56 : decode cY1_init 56 = .ok (.aload_n 0, 1) := by decide +kernel
theorem dY1_init_57 : decode cY1_init 57 = .ok (.getfield 27, 3) := by decide +kernel
theorem dY1_init_60 : decode cY1_init 60 = .ok (.putfield 33, 3) := by decide +kernel
theorem dY1_init_63 : decode cY1_init 63 = .ok (.return_, 1) := by decide +kernel
theorem dY1_thrown_0 : decode cY1_thrown 0 = .ok (.aload_n 0, 1) := by decide +kernel
theorem dY1_thrown_1 : decode cY1_thrown 1 = .ok (.getfield 36, 3) := by decide +kernel
theorem dY1_thrown_4 : decode cY1_thrown 4 = .ok (.ireturn, 1) := by decide +kernel
theorem dY1_isBlock_0 : decode cY1_isBlock 0 = .ok (.iload_n 1, 1) := by decide +kernel
theorem dY1_isBlock_1 : decode cY1_isBlock 1 = .ok (.ifCond .lt 27, 3) := by decide +kernel
theorem dY1_isBlock_4 : decode cY1_isBlock 4 = .ok (.iload_n 1, 1) := by decide +kernel
theorem dY1_isBlock_5 : decode cY1_isBlock 5 = .ok (.aload_n 0, 1) := by decide +kernel
theorem dY1_isBlock_6 : decode cY1_isBlock 6 = .ok (.getfield 23, 3) := by decide +kernel
theorem dY1_isBlock_9 : decode cY1_isBlock 9 = .ok (.if_icmp .ge 19, 3) := by decide +kernel
theorem dY1_isBlock_12 : decode cY1_isBlock 12 = .ok (.iload_n 2, 1) := by decide +kernel
theorem dY1_isBlock_13 : decode cY1_isBlock 13 = .ok (.ifCond .lt 15, 3) := by decide +kernel
theorem dY1_isBlock_16 : decode cY1_isBlock 16 = .ok (.iload_n 2, 1) := by decide +kernel
theorem dY1_isBlock_17 : decode cY1_isBlock 17 = .ok (.aload_n 0, 1) := by decide +kernel
theorem dY1_isBlock_18 : decode cY1_isBlock 18 = .ok (.getfield 27, 3) := by decide +kernel
theorem dY1_isBlock_21 : decode cY1_isBlock 21 = .ok (.if_icmp .ge 7, 3) := by decide +kernel
theorem dY1_isBlock_24 : decode cY1_isBlock 24 = .ok (.iconst 1, 1) := by decide +kernel
theorem dY1_isBlock_25 : decode cY1_isBlock 25 = .ok (.goto 4, 3) := by decide +kernel
theorem dY1_isBlock_28 : decode cY1_isBlock 28 = .ok (.iconst 0, 1) := by decide +kernel
theorem dY1_isBlock_29 : decode cY1_isBlock 29 = .ok (.ireturn, 1) := by decide +kernel
theorem dY1_isPlace_0 : decode cY1_isPlace 0 = .ok (.iload_n 0, 1) := by decide +kernel
theorem dY1_isPlace_1 : decode cY1_isPlace 1 = .ok (.ifCond .lt 13, 3) := by decide +kernel
theorem dY1_isPlace_4 : decode cY1_isPlace 4 = .ok (.iload_n 0, 1) := by decide +kernel
theorem dY1_isPlace_5 : decode cY1_isPlace 5 = .ok (.bipush 64, 2) := by decide +kernel
theorem dY1_isPlace_7 : decode cY1_isPlace 7 = .ok (.if_icmp .ge 7, 3) := by decide +kernel
theorem dY1_isPlace_10 : decode cY1_isPlace 10 = .ok (.iconst 1, 1) := by decide +kernel
theorem dY1_isPlace_11 : decode cY1_isPlace 11 = .ok (.goto 4, 3) := by decide +kernel
theorem dY1_isPlace_14 : decode cY1_isPlace 14 = .ok (.iconst 0, 1) := by decide +kernel
theorem dY1_isPlace_15 : decode cY1_isPlace 15 = .ok (.ireturn, 1) := by decide +kernel
theorem dY1_block_0 : decode cY1_block 0 = .ok (.bipush 64, 2) := by decide +kernel
theorem dY1_block_2 : decode cY1_block 2 = .ok (.bipush 8, 2) := by decide +kernel
theorem dY1_block_4 : decode cY1_block 4 = .ok (.iload_n 1, 1) := by decide +kernel
theorem dY1_block_5 : decode cY1_block 5 = .ok (.imul, 1) := by decide +kernel
theorem dY1_block_6 : decode cY1_block 6 = .ok (.iload_n 0, 1) := by decide +kernel
theorem dY1_block_7 : decode cY1_block 7 = .ok (.iadd, 1) := by decide +kernel
theorem dY1_block_8 : decode cY1_block 8 = .ok (.imul, 1) := by decide +kernel
theorem dY1_block_9 : decode cY1_block 9 = .ok (.ireturn, 1) := by decide +kernel
theorem dY1_put_0 : decode cY1_put 0 = .ok (.aload_n 0, 1) := by decide +kernel
theorem dY1_put_1 : decode cY1_put 1 = .ok (.aload_n 0, 1) := by decide +kernel
theorem dY1_put_2 : decode cY1_put 2 = .ok (.iload_n 1, 1) := by decide +kernel
theorem dY1_put_3 : decode cY1_put 3 = .ok (.iload_n 2, 1) := by decide +kernel
theorem dY1_put_4 : decode cY1_put 4 = .ok (.invokevirtual 39, 3) := by decide +kernel
theorem dY1_put_7 : decode cY1_put 7 = .ok (.ifCond .eq 10, 3) := by decide +kernel
theorem dY1_put_10 : decode cY1_put 10 = .ok (.iload_n 3, 1) := by decide +kernel
theorem dY1_put_11 : decode cY1_put 11 = .ok (.invokestatic 43, 3) := by decide +kernel
theorem dY1_put_14 : decode cY1_put 14 = .ok (.ifCond .ne 7, 3) := by decide +kernel
theorem dY1_put_17 : decode cY1_put 17 = .ok (.iconst 1, 1) := by decide +kernel
theorem dY1_put_18 : decode cY1_put 18 = .ok (.goto 24, 3) := by decide +kernel
theorem dY1_put_21 : decode cY1_put 21 = .ok (.iload 4, 2) := by decide +kernel
theorem dY1_put_23 : decode cY1_put 23 = .ok (.sipush (-32767), 3) := by decide +kernel
theorem dY1_put_26 : decode cY1_put 26 = .ok (.if_icmp .lt 11, 3) := by decide +kernel
theorem dY1_put_29 : decode cY1_put 29 = .ok (.iload 4, 2) := by decide +kernel
theorem dY1_put_31 : decode cY1_put 31 = .ok (.sipush 32767, 3) := by decide +kernel
theorem dY1_put_34 : decode cY1_put 34 = .ok (.if_icmp .le 7, 3) := by decide +kernel
theorem dY1_put_37 : decode cY1_put 37 = .ok (.iconst 2, 1) := by decide +kernel
theorem dY1_put_38 : decode cY1_put 38 = .ok (.goto 4, 3) := by decide +kernel
theorem dY1_put_41 : decode cY1_put 41 = .ok (.iconst 0, 1) := by decide +kernel
theorem dY1_put_42 : decode cY1_put 42 = .ok (.putfield 36, 3) := by decide +kernel
theorem dY1_put_45 : decode cY1_put 45 = .ok (.aload_n 0, 1) := by decide +kernel
theorem dY1_put_46 : decode cY1_put 46 = .ok (.getfield 36, 3) := by decide +kernel
theorem dY1_put_49 : decode cY1_put 49 = .ok (.ifCond .ne 17, 3) := by decide +kernel
theorem dY1_put_52 : decode cY1_put 52 = .ok (.aload_n 0, 1) := by decide +kernel
theorem dY1_put_53 : decode cY1_put 53 = .ok (.getfield 7, 3) := by decide +kernel
theorem dY1_put_56 : decode cY1_put 56 = .ok (.iload_n 1, 1) := by decide +kernel
theorem dY1_put_57 : decode cY1_put 57 = .ok (.iload_n 2, 1) := by decide +kernel
theorem dY1_put_58 : decode cY1_put 58 = .ok (.invokestatic 47, 3) := by decide +kernel
theorem dY1_put_61 : decode cY1_put 61 = .ok (.iload_n 3, 1) := by decide +kernel
theorem dY1_put_62 : decode cY1_put 62 = .ok (.iadd, 1) := by decide +kernel
theorem dY1_put_63 : decode cY1_put 63 = .ok (.iload 4, 2) := by decide +kernel
theorem dY1_put_65 : decode cY1_put 65 = .ok (.iastore, 1) := by decide +kernel
theorem dY1_put_66 : decode cY1_put 66 = .ok (.return_, 1) := by decide +kernel
theorem dY1_fill_0 : decode cY1_fill 0 = .ok (.aload_n 0, 1) := by decide +kernel
theorem dY1_fill_1 : decode cY1_fill 1 = .ok (.iconst 0, 1) := by decide +kernel
theorem dY1_fill_2 : decode cY1_fill 2 = .ok (.putfield 36, 3) := by decide +kernel
theorem dY1_fill_5 : decode cY1_fill 5 = .ok (.iconst 0, 1) := by decide +kernel
theorem dY1_fill_6 : decode cY1_fill 6 = .ok (.istore_n 2, 1) := by decide +kernel
theorem dY1_fill_7 : decode cY1_fill 7 = .ok (.iload_n 2, 1) := by decide +kernel
theorem dY1_fill_8 : decode cY1_fill 8 = .ok (.aload_n 0, 1) := by decide +kernel
theorem dY1_fill_9 : decode cY1_fill 9 = .ok (.getfield 27, 3) := by decide +kernel
theorem dY1_fill_12 : decode cY1_fill 12 = .ok (.if_icmp .ge 96, 3) := by decide +kernel
theorem dY1_fill_15 : decode cY1_fill 15 = .ok (.iconst 0, 1) := by decide +kernel
theorem dY1_fill_16 : decode cY1_fill 16 = .ok (.istore_n 3, 1) := by decide +kernel
theorem dY1_fill_17 : decode cY1_fill 17 = .ok (.iload_n 3, 1) := by decide +kernel
theorem dY1_fill_18 : decode cY1_fill 18 = .ok (.aload_n 0, 1) := by decide +kernel
theorem dY1_fill_19 : decode cY1_fill 19 = .ok (.getfield 23, 3) := by decide +kernel
theorem dY1_fill_22 : decode cY1_fill 22 = .ok (.if_icmp .ge 80, 3) := by decide +kernel
theorem dY1_fill_25 : decode cY1_fill 25 = .ok (.iconst 0, 1) := by decide +kernel
theorem dY1_fill_26 : decode cY1_fill 26 = .ok (.istore 4, 2) := by decide +kernel
theorem dY1_fill_28 : decode cY1_fill 28 = .ok (.iload 4, 2) := by decide +kernel
theorem dY1_fill_30 : decode cY1_fill 30 = .ok (.bipush 64, 2) := by decide +kernel
theorem dY1_fill_32 : decode cY1_fill 32 = .ok (.if_icmp .ge 64, 3) := by decide +kernel
theorem dY1_fill_35 : decode cY1_fill 35 = .ok (.iload_n 3, 1) := by decide +kernel
theorem dY1_fill_36 : decode cY1_fill 36 = .ok (.iload_n 2, 1) := by decide +kernel
theorem dY1_fill_37 : decode cY1_fill 37 = .ok (.invokestatic 47, 3) := by decide +kernel
theorem dY1_fill_40 : decode cY1_fill 40 = .ok (.iload 4, 2) := by decide +kernel
theorem dY1_fill_42 : decode cY1_fill 42 = .ok (.iadd, 1) := by decide +kernel
theorem dY1_fill_43 : decode cY1_fill 43 = .ok (.istore 5, 2) := by decide +kernel
theorem dY1_fill_45 : decode cY1_fill 45 = .ok (.iload_n 1, 1) := by decide +kernel
theorem dY1_fill_46 : decode cY1_fill 46 = .ok (.i2l, 1) := by decide +kernel
theorem dY1_fill_47 : decode cY1_fill 47 = .ok (.iload 5, 2) := by decide +kernel
theorem dY1_fill_49 : decode cY1_fill 49 = .ok (.i2l, 1) := by decide +kernel
theorem dY1_fill_50 : decode cY1_fill 50 = .ok (.ldc2_w 51, 3) := by decide +kernel
theorem dY1_fill_53 : decode cY1_fill 53 = .ok (.lmul, 1) := by decide +kernel
theorem dY1_fill_54 : decode cY1_fill 54 = .ok (.ladd, 1) := by decide +kernel
theorem dY1_fill_55 : decode cY1_fill 55 = .ok (.ldc2_w 53, 3) := by decide +kernel
theorem dY1_fill_58 : decode cY1_fill 58 = .ok (.land, 1) := by decide +kernel
theorem dY1_fill_59 : decode cY1_fill 59 = .ok (.ldc2_w 55, 3) := by decide +kernel
theorem dY1_fill_62 : decode cY1_fill 62 = .ok (.lmul, 1) := by decide +kernel
theorem dY1_fill_63 : decode cY1_fill 63 = .ok (.ldc2_w 53, 3) := by decide +kernel
theorem dY1_fill_66 : decode cY1_fill 66 = .ok (.land, 1) := by decide +kernel
theorem dY1_fill_67 : decode cY1_fill 67 = .ok (.lstore 6, 2) := by decide +kernel
theorem dY1_fill_69 : decode cY1_fill 69 = .ok (.aload_n 0, 1) := by decide +kernel
theorem dY1_fill_70 : decode cY1_fill 70 = .ok (.getfield 7, 3) := by decide +kernel
theorem dY1_fill_73 : decode cY1_fill 73 = .ok (.iload 5, 2) := by decide +kernel
theorem dY1_fill_75 : decode cY1_fill 75 = .ok (.lload 6, 2) := by decide +kernel
theorem dY1_fill_77 : decode cY1_fill 77 = .ok (.bipush 20, 2) := by decide +kernel
theorem dY1_fill_79 : decode cY1_fill 79 = .ok (.lshr, 1) := by decide +kernel
theorem dY1_fill_80 : decode cY1_fill 80 = .ok (.ldc2_w 57, 3) := by decide +kernel
theorem dY1_fill_83 : decode cY1_fill 83 = .ok (.lrem, 1) := by decide +kernel
theorem dY1_fill_84 : decode cY1_fill 84 = .ok (.l2i, 1) := by decide +kernel
theorem dY1_fill_85 : decode cY1_fill 85 = .ok (.sipush 1023, 3) := by decide +kernel
theorem dY1_fill_88 : decode cY1_fill 88 = .ok (.isub, 1) := by decide +kernel
theorem dY1_fill_89 : decode cY1_fill 89 = .ok (.iastore, 1) := by decide +kernel
theorem dY1_fill_90 : decode cY1_fill 90 = .ok (.iinc 4 1, 3) := by decide +kernel
theorem dY1_fill_93 : decode cY1_fill 93 = .ok (.goto (-65), 3) := by decide +kernel
theorem dY1_fill_96 : decode cY1_fill 96 = .ok (.iinc 3 1, 3) := by decide +kernel
theorem dY1_fill_99 : decode cY1_fill 99 = .ok (.goto (-82), 3) := by decide +kernel
theorem dY1_fill_102 : decode cY1_fill 102 = .ok (.iinc 2 1, 3) := by decide +kernel
theorem dY1_fill_105 : decode cY1_fill 105 = .ok (.goto (-98), 3) := by decide +kernel
theorem dY1_fill_108 : decode cY1_fill 108 = .ok (.return_, 1) := by decide +kernel
theorem dY1_become_0 : decode cY1_become 0 = .ok (.aload_n 0, 1) := by decide +kernel
theorem dY1_become_1 : decode cY1_become 1 = .ok (.iload_n 1, 1) := by decide +kernel
theorem dY1_become_2 : decode cY1_become 2 = .ok (.putfield 23, 3) := by decide +kernel
theorem dY1_become_5 : decode cY1_become 5 = .ok (.aload_n 0, 1) := by decide +kernel
theorem dY1_become_6 : decode cY1_become 6 = .ok (.iload_n 2, 1) := by decide +kernel
theorem dY1_become_7 : decode cY1_become 7 = .ok (.putfield 27, 3) := by decide +kernel
theorem dY1_become_10 : decode cY1_become 10 = .ok (.iconst 0, 1) := by decide +kernel
theorem dY1_become_11 : decode cY1_become 11 = .ok (.istore_n 3, 1) := by decide +kernel
theorem dY1_become_12 : decode cY1_become 12 = .ok (.iload_n 3, 1) := by decide +kernel
theorem dY1_become_13 : decode cY1_become 13 = .ok (.sipush 4096, 3) := by decide +kernel
theorem dY1_become_16 : decode cY1_become 16 = .ok (.if_icmp .ge 21, 3) := by decide +kernel
theorem dY1_become_19 : decode cY1_become 19 = .ok (.aload_n 0, 1) := by decide +kernel
theorem dY1_become_20 : decode cY1_become 20 = .ok (.getfield 7, 3) := by decide +kernel
theorem dY1_become_23 : decode cY1_become 23 = .ok (.iload_n 3, 1) := by decide +kernel
theorem dY1_become_24 : decode cY1_become 24 = .ok (.aload_n 0, 1) := by decide +kernel
theorem dY1_become_25 : decode cY1_become 25 = .ok (.getfield 16, 3) := by decide +kernel
theorem dY1_become_28 : decode cY1_become 28 = .ok (.iload_n 3, 1) := by decide +kernel
theorem dY1_become_29 : decode cY1_become 29 = .ok (.iaload, 1) := by decide +kernel
theorem dY1_become_30 : decode cY1_become 30 = .ok (.iastore, 1) := by decide +kernel
theorem dY1_become_31 : decode cY1_become 31 = .ok (.iinc 3 1, 3) := by decide +kernel
theorem dY1_become_34 : decode cY1_become 34 = .ok (.goto (-22), 3) := by decide +kernel
theorem dY1_become_37 : decode cY1_become 37 = .ok (.return_, 1) := by decide +kernel
theorem dY1_transposeAll_0 : decode cY1_transposeAll 0 = .ok (.iconst 0, 1) := by decide +kernel
theorem dY1_transposeAll_1 : decode cY1_transposeAll 1 = .ok (.istore_n 1, 1) := by decide +kernel
theorem dY1_transposeAll_2 : decode cY1_transposeAll 2 = .ok (.iload_n 1, 1) := by decide +kernel
theorem dY1_transposeAll_3 : decode cY1_transposeAll 3 = .ok (.aload_n 0, 1) := by decide +kernel
theorem dY1_transposeAll_4 : decode cY1_transposeAll 4 = .ok (.getfield 23, 3) := by decide +kernel
theorem dY1_transposeAll_7 : decode cY1_transposeAll 7 = .ok (.if_icmp .ge 74, 3) := by decide +kernel
theorem dY1_transposeAll_10 : decode cY1_transposeAll 10 = .ok (.iconst 0, 1) := by decide +kernel
theorem dY1_transposeAll_11 : decode cY1_transposeAll 11 = .ok (.istore_n 2, 1) := by decide +kernel
theorem dY1_transposeAll_12 : decode cY1_transposeAll 12 = .ok (.iload_n 2, 1) := by decide +kernel
theorem dY1_transposeAll_13 : decode cY1_transposeAll 13 = .ok (.aload_n 0, 1) := by decide +kernel
theorem dY1_transposeAll_14 : decode cY1_transposeAll 14 = .ok (.getfield 27, 3) := by decide +kernel
theorem dY1_transposeAll_17 : decode cY1_transposeAll 17 = .ok (.if_icmp .ge 58, 3) := by decide +kernel
theorem dY1_transposeAll_20 : decode cY1_transposeAll 20 = .ok (.iconst 0, 1) := by decide +kernel
theorem dY1_transposeAll_21 : decode cY1_transposeAll 21 = .ok (.istore_n 3, 1) := by decide +kernel
theorem dY1_transposeAll_22 : decode cY1_transposeAll 22 = .ok (.iload_n 3, 1) := by decide +kernel
theorem dY1_transposeAll_23 : decode cY1_transposeAll 23 = .ok (.bipush 64, 2) := by decide +kernel
theorem dY1_transposeAll_25 : decode cY1_transposeAll 25 = .ok (.if_icmp .ge 44, 3) := by decide +kernel
theorem dY1_transposeAll_28 : decode cY1_transposeAll 28 = .ok (.aload_n 0, 1) := by decide +kernel
theorem dY1_transposeAll_29 : decode cY1_transposeAll 29 = .ok (.getfield 16, 3) := by decide +kernel
theorem dY1_transposeAll_32 : decode cY1_transposeAll 32 = .ok (.iload_n 2, 1) := by decide +kernel
theorem dY1_transposeAll_33 : decode cY1_transposeAll 33 = .ok (.iload_n 1, 1) := by decide +kernel
theorem dY1_transposeAll_34 : decode cY1_transposeAll 34 = .ok (.invokestatic 47, 3) := by decide +kernel
theorem dY1_transposeAll_37 : decode cY1_transposeAll 37 = .ok (.iload_n 3, 1) := by decide +kernel
theorem dY1_transposeAll_38 : decode cY1_transposeAll 38 = .ok (.iadd, 1) := by decide +kernel
theorem dY1_transposeAll_39 : decode cY1_transposeAll 39 = .ok (.aload_n 0, 1) := by decide +kernel
theorem dY1_transposeAll_40 : decode cY1_transposeAll 40 = .ok (.getfield 7, 3) := by decide +kernel
theorem dY1_transposeAll_43 : decode cY1_transposeAll 43 = .ok (.iload_n 1, 1) := by decide +kernel
theorem dY1_transposeAll_44 : decode cY1_transposeAll 44 = .ok (.iload_n 2, 1) := by decide +kernel
theorem dY1_transposeAll_45 : decode cY1_transposeAll 45 = .ok (.invokestatic 47, 3) := by decide +kernel
theorem dY1_transposeAll_48 : decode cY1_transposeAll 48 = .ok (.bipush 8, 2) := by decide +kernel
theorem dY1_transposeAll_50 : decode cY1_transposeAll 50 = .ok (.iload_n 3, 1) := by decide +kernel
theorem dY1_transposeAll_51 : decode cY1_transposeAll 51 = .ok (.bipush 8, 2) := by decide +kernel
theorem dY1_transposeAll_53 : decode cY1_transposeAll 53 = .ok (.irem, 1) := by decide +kernel
theorem dY1_transposeAll_54 : decode cY1_transposeAll 54 = .ok (.imul, 1) := by decide +kernel
theorem dY1_transposeAll_55 : decode cY1_transposeAll 55 = .ok (.iadd, 1) := by decide +kernel
theorem dY1_transposeAll_56 : decode cY1_transposeAll 56 = .ok (.iload_n 3, 1) := by decide +kernel
theorem dY1_transposeAll_57 : decode cY1_transposeAll 57 = .ok (.bipush 8, 2) := by decide +kernel
theorem dY1_transposeAll_59 : decode cY1_transposeAll 59 = .ok (.idiv, 1) := by decide +kernel
theorem dY1_transposeAll_60 : decode cY1_transposeAll 60 = .ok (.iadd, 1) := by decide +kernel
theorem dY1_transposeAll_61 : decode cY1_transposeAll 61 = .ok (.iaload, 1) := by decide +kernel
theorem dY1_transposeAll_62 : decode cY1_transposeAll 62 = .ok (.iastore, 1) := by decide +kernel
theorem dY1_transposeAll_63 : decode cY1_transposeAll 63 = .ok (.iinc 3 1, 3) := by decide +kernel
theorem dY1_transposeAll_66 : decode cY1_transposeAll 66 = .ok (.goto (-44), 3) := by decide +kernel
theorem dY1_transposeAll_69 : decode cY1_transposeAll 69 = .ok (.iinc 2 1, 3) := by decide +kernel
theorem dY1_transposeAll_72 : decode cY1_transposeAll 72 = .ok (.goto (-60), 3) := by decide +kernel
theorem dY1_transposeAll_75 : decode cY1_transposeAll 75 = .ok (.iinc 1 1, 3) := by decide +kernel
theorem dY1_transposeAll_78 : decode cY1_transposeAll 78 = .ok (.goto (-76), 3) := by decide +kernel
theorem dY1_transposeAll_81 : decode cY1_transposeAll 81 = .ok (.aload_n 0, 1) := by decide +kernel
theorem dY1_transposeAll_82 : decode cY1_transposeAll 82 = .ok (.aload_n 0, 1) := by decide +kernel
theorem dY1_transposeAll_83 : decode cY1_transposeAll 83 = .ok (.getfield 27, 3) := by decide +kernel
theorem dY1_transposeAll_86 : decode cY1_transposeAll 86 = .ok (.aload_n 0, 1) := by decide +kernel
theorem dY1_transposeAll_87 : decode cY1_transposeAll 87 = .ok (.getfield 23, 3) := by decide +kernel
theorem dY1_transposeAll_90 : decode cY1_transposeAll 90 = .ok (.invokevirtual 59, 3) := by decide +kernel
theorem dY1_transposeAll_93 : decode cY1_transposeAll 93 = .ok (.return_, 1) := by decide +kernel
theorem dY1_mirrorAll_0 : decode cY1_mirrorAll 0 = .ok (.iconst 0, 1) := by decide +kernel
theorem dY1_mirrorAll_1 : decode cY1_mirrorAll 1 = .ok (.istore_n 1, 1) := by decide +kernel
theorem dY1_mirrorAll_2 : decode cY1_mirrorAll 2 = .ok (.iload_n 1, 1) := by decide +kernel
theorem dY1_mirrorAll_3 : decode cY1_mirrorAll 3 = .ok (.aload_n 0, 1) := by decide +kernel
theorem dY1_mirrorAll_4 : decode cY1_mirrorAll 4 = .ok (.getfield 27, 3) := by decide +kernel
theorem dY1_mirrorAll_7 : decode cY1_mirrorAll 7 = .ok (.if_icmp .ge 87, 3) := by decide +kernel
theorem dY1_mirrorAll_10 : decode cY1_mirrorAll 10 = .ok (.iconst 0, 1) := by decide +kernel
theorem dY1_mirrorAll_11 : decode cY1_mirrorAll 11 = .ok (.istore_n 2, 1) := by decide +kernel
theorem dY1_mirrorAll_12 : decode cY1_mirrorAll 12 = .ok (.iload_n 2, 1) := by decide +kernel
theorem dY1_mirrorAll_13 : decode cY1_mirrorAll 13 = .ok (.aload_n 0, 1) := by decide +kernel
theorem dY1_mirrorAll_14 : decode cY1_mirrorAll 14 = .ok (.getfield 23, 3) := by decide +kernel
theorem dY1_mirrorAll_17 : decode cY1_mirrorAll 17 = .ok (.if_icmp .ge 71, 3) := by decide +kernel
theorem dY1_mirrorAll_20 : decode cY1_mirrorAll 20 = .ok (.iconst 0, 1) := by decide +kernel
theorem dY1_mirrorAll_21 : decode cY1_mirrorAll 21 = .ok (.istore_n 3, 1) := by decide +kernel
theorem dY1_mirrorAll_22 : decode cY1_mirrorAll 22 = .ok (.iload_n 3, 1) := by decide +kernel
theorem dY1_mirrorAll_23 : decode cY1_mirrorAll 23 = .ok (.bipush 64, 2) := by decide +kernel
theorem dY1_mirrorAll_25 : decode cY1_mirrorAll 25 = .ok (.if_icmp .ge 57, 3) := by decide +kernel
theorem dY1_mirrorAll_28 : decode cY1_mirrorAll 28 = .ok (.aload_n 0, 1) := by decide +kernel
theorem dY1_mirrorAll_29 : decode cY1_mirrorAll 29 = .ok (.getfield 7, 3) := by decide +kernel
theorem dY1_mirrorAll_32 : decode cY1_mirrorAll 32 = .ok (.aload_n 0, 1) := by decide +kernel
theorem dY1_mirrorAll_33 : decode cY1_mirrorAll 33 = .ok (.getfield 23, 3) := by decide +kernel
theorem dY1_mirrorAll_36 : decode cY1_mirrorAll 36 = .ok (.iconst 1, 1) := by decide +kernel
theorem dY1_mirrorAll_37 : decode cY1_mirrorAll 37 = .ok (.isub, 1) := by decide +kernel
theorem dY1_mirrorAll_38 : decode cY1_mirrorAll 38 = .ok (.iload_n 2, 1) := by decide +kernel
theorem dY1_mirrorAll_39 : decode cY1_mirrorAll 39 = .ok (.isub, 1) := by decide +kernel
theorem dY1_mirrorAll_40 : decode cY1_mirrorAll 40 = .ok (.iload_n 1, 1) := by decide +kernel
theorem dY1_mirrorAll_41 : decode cY1_mirrorAll 41 = .ok (.invokestatic 47, 3) := by decide +kernel
theorem dY1_mirrorAll_44 : decode cY1_mirrorAll 44 = .ok (.iload_n 3, 1) := by decide +kernel
theorem dY1_mirrorAll_45 : decode cY1_mirrorAll 45 = .ok (.iadd, 1) := by decide +kernel
theorem dY1_mirrorAll_46 : decode cY1_mirrorAll 46 = .ok (.iaload, 1) := by decide +kernel
theorem dY1_mirrorAll_47 : decode cY1_mirrorAll 47 = .ok (.istore 4, 2) := by decide +kernel
theorem dY1_mirrorAll_49 : decode cY1_mirrorAll 49 = .ok (.aload_n 0, 1) := by decide +kernel
theorem dY1_mirrorAll_50 : decode cY1_mirrorAll 50 = .ok (.getfield 16, 3) := by decide +kernel
theorem dY1_mirrorAll_53 : decode cY1_mirrorAll 53 = .ok (.iload_n 2, 1) := by decide +kernel
theorem dY1_mirrorAll_54 : decode cY1_mirrorAll 54 = .ok (.iload_n 1, 1) := by decide +kernel
theorem dY1_mirrorAll_55 : decode cY1_mirrorAll 55 = .ok (.invokestatic 47, 3) := by decide +kernel
theorem dY1_mirrorAll_58 : decode cY1_mirrorAll 58 = .ok (.iload_n 3, 1) := by decide +kernel
theorem dY1_mirrorAll_59 : decode cY1_mirrorAll 59 = .ok (.iadd, 1) := by decide +kernel
theorem dY1_mirrorAll_60 : decode cY1_mirrorAll 60 = .ok (.iload_n 3, 1) := by decide +kernel
theorem dY1_mirrorAll_61 : decode cY1_mirrorAll 61 = .ok (.iconst 2, 1) := by decide +kernel
theorem dY1_mirrorAll_62 : decode cY1_mirrorAll 62 = .ok (.irem, 1) := by decide +kernel
theorem dY1_mirrorAll_63 : decode cY1_mirrorAll 63 = .ok (.iconst 1, 1) := by decide +kernel
theorem dY1_mirrorAll_64 : decode cY1_mirrorAll 64 = .ok (.if_icmp .ne 9, 3) := by decide +kernel
theorem dY1_mirrorAll_67 : decode cY1_mirrorAll 67 = .ok (.iload 4, 2) := by decide +kernel
theorem dY1_mirrorAll_69 : decode cY1_mirrorAll 69 = .ok (.ineg, 1) := by decide +kernel
theorem dY1_mirrorAll_70 : decode cY1_mirrorAll 70 = .ok (.goto 5, 3) := by decide +kernel
theorem dY1_mirrorAll_73 : decode cY1_mirrorAll 73 = .ok (.iload 4, 2) := by decide +kernel
theorem dY1_mirrorAll_75 : decode cY1_mirrorAll 75 = .ok (.iastore, 1) := by decide +kernel
theorem dY1_mirrorAll_76 : decode cY1_mirrorAll 76 = .ok (.iinc 3 1, 3) := by decide +kernel
theorem dY1_mirrorAll_79 : decode cY1_mirrorAll 79 = .ok (.goto (-57), 3) := by decide +kernel
theorem dY1_mirrorAll_82 : decode cY1_mirrorAll 82 = .ok (.iinc 2 1, 3) := by decide +kernel
theorem dY1_mirrorAll_85 : decode cY1_mirrorAll 85 = .ok (.goto (-73), 3) := by decide +kernel
theorem dY1_mirrorAll_88 : decode cY1_mirrorAll 88 = .ok (.iinc 1 1, 3) := by decide +kernel
theorem dY1_mirrorAll_91 : decode cY1_mirrorAll 91 = .ok (.goto (-89), 3) := by decide +kernel
theorem dY1_mirrorAll_94 : decode cY1_mirrorAll 94 = .ok (.aload_n 0, 1) := by decide +kernel
theorem dY1_mirrorAll_95 : decode cY1_mirrorAll 95 = .ok (.aload_n 0, 1) := by decide +kernel
theorem dY1_mirrorAll_96 : decode cY1_mirrorAll 96 = .ok (.getfield 23, 3) := by decide +kernel
theorem dY1_mirrorAll_99 : decode cY1_mirrorAll 99 = .ok (.aload_n 0, 1) := by decide +kernel
theorem dY1_mirrorAll_100 : decode cY1_mirrorAll 100 = .ok (.getfield 27, 3) := by decide +kernel
theorem dY1_mirrorAll_103 : decode cY1_mirrorAll 103 = .ok (.invokevirtual 59, 3) := by decide +kernel
theorem dY1_mirrorAll_106 : decode cY1_mirrorAll 106 = .ok (.return_, 1) := by decide +kernel
theorem dY1_flipAll_0 : decode cY1_flipAll 0 = .ok (.iconst 0, 1) := by decide +kernel
theorem dY1_flipAll_1 : decode cY1_flipAll 1 = .ok (.istore_n 1, 1) := by decide +kernel
theorem dY1_flipAll_2 : decode cY1_flipAll 2 = .ok (.iload_n 1, 1) := by decide +kernel
theorem dY1_flipAll_3 : decode cY1_flipAll 3 = .ok (.aload_n 0, 1) := by decide +kernel
theorem dY1_flipAll_4 : decode cY1_flipAll 4 = .ok (.getfield 27, 3) := by decide +kernel
theorem dY1_flipAll_7 : decode cY1_flipAll 7 = .ok (.if_icmp .ge 90, 3) := by decide +kernel
theorem dY1_flipAll_10 : decode cY1_flipAll 10 = .ok (.iconst 0, 1) := by decide +kernel
theorem dY1_flipAll_11 : decode cY1_flipAll 11 = .ok (.istore_n 2, 1) := by decide +kernel
theorem dY1_flipAll_12 : decode cY1_flipAll 12 = .ok (.iload_n 2, 1) := by decide +kernel
theorem dY1_flipAll_13 : decode cY1_flipAll 13 = .ok (.aload_n 0, 1) := by decide +kernel
theorem dY1_flipAll_14 : decode cY1_flipAll 14 = .ok (.getfield 23, 3) := by decide +kernel
theorem dY1_flipAll_17 : decode cY1_flipAll 17 = .ok (.if_icmp .ge 74, 3) := by decide +kernel
theorem dY1_flipAll_20 : decode cY1_flipAll 20 = .ok (.iconst 0, 1) := by decide +kernel
theorem dY1_flipAll_21 : decode cY1_flipAll 21 = .ok (.istore_n 3, 1) := by decide +kernel
theorem dY1_flipAll_22 : decode cY1_flipAll 22 = .ok (.iload_n 3, 1) := by decide +kernel
theorem dY1_flipAll_23 : decode cY1_flipAll 23 = .ok (.bipush 64, 2) := by decide +kernel
theorem dY1_flipAll_25 : decode cY1_flipAll 25 = .ok (.if_icmp .ge 60, 3) := by decide +kernel
theorem dY1_flipAll_28 : decode cY1_flipAll 28 = .ok (.aload_n 0, 1) := by decide +kernel
theorem dY1_flipAll_29 : decode cY1_flipAll 29 = .ok (.getfield 7, 3) := by decide +kernel
theorem dY1_flipAll_32 : decode cY1_flipAll 32 = .ok (.iload_n 2, 1) := by decide +kernel
theorem dY1_flipAll_33 : decode cY1_flipAll 33 = .ok (.aload_n 0, 1) := by decide +kernel
theorem dY1_flipAll_34 : decode cY1_flipAll 34 = .ok (.getfield 27, 3) := by decide +kernel
theorem dY1_flipAll_37 : decode cY1_flipAll 37 = .ok (.iconst 1, 1) := by decide +kernel
theorem dY1_flipAll_38 : decode cY1_flipAll 38 = .ok (.isub, 1) := by decide +kernel
theorem dY1_flipAll_39 : decode cY1_flipAll 39 = .ok (.iload_n 1, 1) := by decide +kernel
theorem dY1_flipAll_40 : decode cY1_flipAll 40 = .ok (.isub, 1) := by decide +kernel
theorem dY1_flipAll_41 : decode cY1_flipAll 41 = .ok (.invokestatic 47, 3) := by decide +kernel
theorem dY1_flipAll_44 : decode cY1_flipAll 44 = .ok (.iload_n 3, 1) := by decide +kernel
theorem dY1_flipAll_45 : decode cY1_flipAll 45 = .ok (.iadd, 1) := by decide +kernel
theorem dY1_flipAll_46 : decode cY1_flipAll 46 = .ok (.iaload, 1) := by decide +kernel
theorem dY1_flipAll_47 : decode cY1_flipAll 47 = .ok (.istore 4, 2) := by decide +kernel
theorem dY1_flipAll_49 : decode cY1_flipAll 49 = .ok (.aload_n 0, 1) := by decide +kernel
theorem dY1_flipAll_50 : decode cY1_flipAll 50 = .ok (.getfield 16, 3) := by decide +kernel
theorem dY1_flipAll_53 : decode cY1_flipAll 53 = .ok (.iload_n 2, 1) := by decide +kernel
theorem dY1_flipAll_54 : decode cY1_flipAll 54 = .ok (.iload_n 1, 1) := by decide +kernel
theorem dY1_flipAll_55 : decode cY1_flipAll 55 = .ok (.invokestatic 47, 3) := by decide +kernel
theorem dY1_flipAll_58 : decode cY1_flipAll 58 = .ok (.iload_n 3, 1) := by decide +kernel
theorem dY1_flipAll_59 : decode cY1_flipAll 59 = .ok (.iadd, 1) := by decide +kernel
theorem dY1_flipAll_60 : decode cY1_flipAll 60 = .ok (.iload_n 3, 1) := by decide +kernel
theorem dY1_flipAll_61 : decode cY1_flipAll 61 = .ok (.bipush 8, 2) := by decide +kernel
theorem dY1_flipAll_63 : decode cY1_flipAll 63 = .ok (.idiv, 1) := by decide +kernel
theorem dY1_flipAll_64 : decode cY1_flipAll 64 = .ok (.iconst 2, 1) := by decide +kernel
theorem dY1_flipAll_65 : decode cY1_flipAll 65 = .ok (.irem, 1) := by decide +kernel
theorem dY1_flipAll_66 : decode cY1_flipAll 66 = .ok (.iconst 1, 1) := by decide +kernel
theorem dY1_flipAll_67 : decode cY1_flipAll 67 = .ok (.if_icmp .ne 9, 3) := by decide +kernel
theorem dY1_flipAll_70 : decode cY1_flipAll 70 = .ok (.iload 4, 2) := by decide +kernel
theorem dY1_flipAll_72 : decode cY1_flipAll 72 = .ok (.ineg, 1) := by decide +kernel
theorem dY1_flipAll_73 : decode cY1_flipAll 73 = .ok (.goto 5, 3) := by decide +kernel
theorem dY1_flipAll_76 : decode cY1_flipAll 76 = .ok (.iload 4, 2) := by decide +kernel
theorem dY1_flipAll_78 : decode cY1_flipAll 78 = .ok (.iastore, 1) := by decide +kernel
theorem dY1_flipAll_79 : decode cY1_flipAll 79 = .ok (.iinc 3 1, 3) := by decide +kernel
theorem dY1_flipAll_82 : decode cY1_flipAll 82 = .ok (.goto (-60), 3) := by decide +kernel
theorem dY1_flipAll_85 : decode cY1_flipAll 85 = .ok (.iinc 2 1, 3) := by decide +kernel
theorem dY1_flipAll_88 : decode cY1_flipAll 88 = .ok (.goto (-76), 3) := by decide +kernel
theorem dY1_flipAll_91 : decode cY1_flipAll 91 = .ok (.iinc 1 1, 3) := by decide +kernel
theorem dY1_flipAll_94 : decode cY1_flipAll 94 = .ok (.goto (-92), 3) := by decide +kernel
theorem dY1_flipAll_97 : decode cY1_flipAll 97 = .ok (.aload_n 0, 1) := by decide +kernel
theorem dY1_flipAll_98 : decode cY1_flipAll 98 = .ok (.aload_n 0, 1) := by decide +kernel
theorem dY1_flipAll_99 : decode cY1_flipAll 99 = .ok (.getfield 23, 3) := by decide +kernel
theorem dY1_flipAll_102 : decode cY1_flipAll 102 = .ok (.aload_n 0, 1) := by decide +kernel
theorem dY1_flipAll_103 : decode cY1_flipAll 103 = .ok (.getfield 27, 3) := by decide +kernel
theorem dY1_flipAll_106 : decode cY1_flipAll 106 = .ok (.invokevirtual 59, 3) := by decide +kernel
theorem dY1_flipAll_109 : decode cY1_flipAll 109 = .ok (.return_, 1) := by decide +kernel
theorem dY1_transpose_0 : decode cY1_transpose 0 = .ok (.aload_n 0, 1) := by decide +kernel
theorem dY1_transpose_1 : decode cY1_transpose 1 = .ok (.iconst 0, 1) := by decide +kernel
theorem dY1_transpose_2 : decode cY1_transpose 2 = .ok (.putfield 36, 3) := by decide +kernel
theorem dY1_transpose_5 : decode cY1_transpose 5 = .ok (.aload_n 0, 1) := by decide +kernel
theorem dY1_transpose_6 : decode cY1_transpose 6 = .ok (.invokevirtual 63, 3) := by decide +kernel
theorem dY1_transpose_9 : decode cY1_transpose 9 = .ok (.return_, 1) := by decide +kernel
theorem dY1_mirror_0 : decode cY1_mirror 0 = .ok (.aload_n 0, 1) := by decide +kernel
theorem dY1_mirror_1 : decode cY1_mirror 1 = .ok (.iconst 0, 1) := by decide +kernel
theorem dY1_mirror_2 : decode cY1_mirror 2 = .ok (.putfield 36, 3) := by decide +kernel
theorem dY1_mirror_5 : decode cY1_mirror 5 = .ok (.aload_n 0, 1) := by decide +kernel
theorem dY1_mirror_6 : decode cY1_mirror 6 = .ok (.invokevirtual 66, 3) := by decide +kernel
theorem dY1_mirror_9 : decode cY1_mirror 9 = .ok (.return_, 1) := by decide +kernel
theorem dY1_flip_0 : decode cY1_flip 0 = .ok (.aload_n 0, 1) := by decide +kernel
theorem dY1_flip_1 : decode cY1_flip 1 = .ok (.iconst 0, 1) := by decide +kernel
theorem dY1_flip_2 : decode cY1_flip 2 = .ok (.putfield 36, 3) := by decide +kernel
theorem dY1_flip_5 : decode cY1_flip 5 = .ok (.aload_n 0, 1) := by decide +kernel
theorem dY1_flip_6 : decode cY1_flip 6 = .ok (.invokevirtual 69, 3) := by decide +kernel
theorem dY1_flip_9 : decode cY1_flip 9 = .ok (.return_, 1) := by decide +kernel
theorem dY1_turn_0 : decode cY1_turn 0 = .ok (.aload_n 0, 1) := by decide +kernel
theorem dY1_turn_1 : decode cY1_turn 1 = .ok (.iconst 0, 1) := by decide +kernel
theorem dY1_turn_2 : decode cY1_turn 2 = .ok (.putfield 36, 3) := by decide +kernel
theorem dY1_turn_5 : decode cY1_turn 5 = .ok (.iload_n 1, 1) := by decide +kernel
theorem dY1_turn_6 : decode cY1_turn 6 = .ok (.iconst 4, 1) := by decide +kernel
theorem dY1_turn_7 : decode cY1_turn 7 = .ok (.irem, 1) := by decide +kernel
theorem dY1_turn_8 : decode cY1_turn 8 = .ok (.iconst 4, 1) := by decide +kernel
theorem dY1_turn_9 : decode cY1_turn 9 = .ok (.iadd, 1) := by decide +kernel
theorem dY1_turn_10 : decode cY1_turn 10 = .ok (.iconst 4, 1) := by decide +kernel
theorem dY1_turn_11 : decode cY1_turn 11 = .ok (.irem, 1) := by decide +kernel
theorem dY1_turn_12 : decode cY1_turn 12 = .ok (.istore_n 2, 1) := by decide +kernel
theorem dY1_turn_13 : decode cY1_turn 13 = .ok (.iconst 0, 1) := by decide +kernel
theorem dY1_turn_14 : decode cY1_turn 14 = .ok (.istore_n 3, 1) := by decide +kernel
theorem dY1_turn_15 : decode cY1_turn 15 = .ok (.iload_n 3, 1) := by decide +kernel
theorem dY1_turn_16 : decode cY1_turn 16 = .ok (.iload_n 2, 1) := by decide +kernel
theorem dY1_turn_17 : decode cY1_turn 17 = .ok (.if_icmp .ge 17, 3) := by decide +kernel
theorem dY1_turn_20 : decode cY1_turn 20 = .ok (.aload_n 0, 1) := by decide +kernel
theorem dY1_turn_21 : decode cY1_turn 21 = .ok (.invokevirtual 63, 3) := by decide +kernel
theorem dY1_turn_24 : decode cY1_turn 24 = .ok (.aload_n 0, 1) := by decide +kernel
theorem dY1_turn_25 : decode cY1_turn 25 = .ok (.invokevirtual 66, 3) := by decide +kernel
theorem dY1_turn_28 : decode cY1_turn 28 = .ok (.iinc 3 1, 3) := by decide +kernel
theorem dY1_turn_31 : decode cY1_turn 31 = .ok (.goto (-16), 3) := by decide +kernel
theorem dY1_turn_34 : decode cY1_turn 34 = .ok (.return_, 1) := by decide +kernel
theorem dY1_crop_0 : decode cY1_crop 0 = .ok (.aload_n 0, 1) := by decide +kernel
theorem dY1_crop_1 : decode cY1_crop 1 = .ok (.iconst 0, 1) := by decide +kernel
theorem dY1_crop_2 : decode cY1_crop 2 = .ok (.putfield 36, 3) := by decide +kernel
theorem dY1_crop_5 : decode cY1_crop 5 = .ok (.iload_n 1, 1) := by decide +kernel
theorem dY1_crop_6 : decode cY1_crop 6 = .ok (.ifCond .lt 56, 3) := by decide +kernel
theorem dY1_crop_9 : decode cY1_crop 9 = .ok (.iload_n 2, 1) := by decide +kernel
theorem dY1_crop_10 : decode cY1_crop 10 = .ok (.ifCond .lt 52, 3) := by decide +kernel
theorem dY1_crop_13 : decode cY1_crop 13 = .ok (.iload_n 3, 1) := by decide +kernel
theorem dY1_crop_14 : decode cY1_crop 14 = .ok (.iconst 1, 1) := by decide +kernel
theorem dY1_crop_15 : decode cY1_crop 15 = .ok (.if_icmp .lt 47, 3) := by decide +kernel
theorem dY1_crop_18 : decode cY1_crop 18 = .ok (.iload 4, 2) := by decide +kernel
theorem dY1_crop_20 : decode cY1_crop 20 = .ok (.iconst 1, 1) := by decide +kernel
theorem dY1_crop_21 : decode cY1_crop 21 = .ok (.if_icmp .lt 41, 3) := by decide +kernel
theorem dY1_crop_24 : decode cY1_crop 24 = .ok (.iload_n 3, 1) := by decide +kernel
theorem dY1_crop_25 : decode cY1_crop 25 = .ok (.aload_n 0, 1) := by decide +kernel
theorem dY1_crop_26 : decode cY1_crop 26 = .ok (.getfield 23, 3) := by decide +kernel
theorem dY1_crop_29 : decode cY1_crop 29 = .ok (.if_icmp .gt 33, 3) := by decide +kernel
theorem dY1_crop_32 : decode cY1_crop 32 = .ok (.iload 4, 2) := by decide +kernel
theorem dY1_crop_34 : decode cY1_crop 34 = .ok (.aload_n 0, 1) := by decide +kernel
theorem dY1_crop_35 : decode cY1_crop 35 = .ok (.getfield 27, 3) := by decide +kernel
theorem dY1_crop_38 : decode cY1_crop 38 = .ok (.if_icmp .gt 24, 3) := by decide +kernel
theorem dY1_crop_41 : decode cY1_crop 41 = .ok (.iload_n 1, 1) := by decide +kernel
theorem dY1_crop_42 : decode cY1_crop 42 = .ok (.aload_n 0, 1) := by decide +kernel
theorem dY1_crop_43 : decode cY1_crop 43 = .ok (.getfield 23, 3) := by decide +kernel
theorem dY1_crop_46 : decode cY1_crop 46 = .ok (.iload_n 3, 1) := by decide +kernel
theorem dY1_crop_47 : decode cY1_crop 47 = .ok (.isub, 1) := by decide +kernel
theorem dY1_crop_48 : decode cY1_crop 48 = .ok (.if_icmp .gt 14, 3) := by decide +kernel
theorem dY1_crop_51 : decode cY1_crop 51 = .ok (.iload_n 2, 1) := by decide +kernel
theorem dY1_crop_52 : decode cY1_crop 52 = .ok (.aload_n 0, 1) := by decide +kernel
theorem dY1_crop_53 : decode cY1_crop 53 = .ok (.getfield 27, 3) := by decide +kernel
theorem dY1_crop_56 : decode cY1_crop 56 = .ok (.iload 4, 2) := by decide +kernel
theorem dY1_crop_58 : decode cY1_crop 58 = .ok (.isub, 1) := by decide +kernel
theorem dY1_crop_59 : decode cY1_crop 59 = .ok (.if_icmp .le 5, 3) := by decide +kernel
theorem dY1_crop_62 : decode cY1_crop 62 = .ok (.iconst 0, 1) := by decide +kernel
theorem dY1_crop_63 : decode cY1_crop 63 = .ok (.ireturn, 1) := by decide +kernel
theorem dY1_crop_64 : decode cY1_crop 64 = .ok (.iconst 0, 1) := by decide +kernel
theorem dY1_crop_65 : decode cY1_crop 65 = .ok (.istore 5, 2) := by decide +kernel
theorem dY1_crop_67 : decode cY1_crop 67 = .ok (.iload 5, 2) := by decide +kernel
theorem dY1_crop_69 : decode cY1_crop 69 = .ok (.iload 4, 2) := by decide +kernel
theorem dY1_crop_71 : decode cY1_crop 71 = .ok (.if_icmp .ge 74, 3) := by decide +kernel
theorem dY1_crop_74 : decode cY1_crop 74 = .ok (.iconst 0, 1) := by decide +kernel
theorem dY1_crop_75 : decode cY1_crop 75 = .ok (.istore 6, 2) := by decide +kernel
theorem dY1_crop_77 : decode cY1_crop 77 = .ok (.iload 6, 2) := by decide +kernel
theorem dY1_crop_79 : decode cY1_crop 79 = .ok (.iload_n 3, 1) := by decide +kernel
theorem dY1_crop_80 : decode cY1_crop 80 = .ok (.if_icmp .ge 59, 3) := by decide +kernel
theorem dY1_crop_83 : decode cY1_crop 83 = .ok (.iconst 0, 1) := by decide +kernel
theorem dY1_crop_84 : decode cY1_crop 84 = .ok (.istore 7, 2) := by decide +kernel
theorem dY1_crop_86 : decode cY1_crop 86 = .ok (.iload 7, 2) := by decide +kernel
theorem dY1_crop_88 : decode cY1_crop 88 = .ok (.bipush 64, 2) := by decide +kernel
theorem dY1_crop_90 : decode cY1_crop 90 = .ok (.if_icmp .ge 43, 3) := by decide +kernel
theorem dY1_crop_93 : decode cY1_crop 93 = .ok (.aload_n 0, 1) := by decide +kernel
theorem dY1_crop_94 : decode cY1_crop 94 = .ok (.getfield 16, 3) := by decide +kernel
theorem dY1_crop_97 : decode cY1_crop 97 = .ok (.iload 6, 2) := by decide +kernel
theorem dY1_crop_99 : decode cY1_crop 99 = .ok (.iload 5, 2) := by decide +kernel
theorem dY1_crop_101 : decode cY1_crop 101 = .ok (.invokestatic 47, 3) := by decide +kernel
theorem dY1_crop_104 : decode cY1_crop 104 = .ok (.iload 7, 2) := by decide +kernel
theorem dY1_crop_106 : decode cY1_crop 106 = .ok (.iadd, 1) := by decide +kernel
theorem dY1_crop_107 : decode cY1_crop 107 = .ok (.aload_n 0, 1) := by decide +kernel
theorem dY1_crop_108 : decode cY1_crop 108 = .ok (.getfield 7, 3) := by decide +kernel
theorem dY1_crop_111 : decode cY1_crop 111 = .ok (.iload_n 1, 1) := by decide +kernel
theorem dY1_crop_112 : decode cY1_crop 112 = .ok (.iload 6, 2) := by decide +kernel
theorem dY1_crop_114 : decode cY1_crop 114 = .ok (.iadd, 1) := by decide +kernel
theorem dY1_crop_115 : decode cY1_crop 115 = .ok (.iload_n 2, 1) := by decide +kernel
theorem dY1_crop_116 : decode cY1_crop 116 = .ok (.iload 5, 2) := by decide +kernel
theorem dY1_crop_118 : decode cY1_crop 118 = .ok (.iadd, 1) := by decide +kernel
theorem dY1_crop_119 : decode cY1_crop 119 = .ok (.invokestatic 47, 3) := by decide +kernel
theorem dY1_crop_122 : decode cY1_crop 122 = .ok (.iload 7, 2) := by decide +kernel
theorem dY1_crop_124 : decode cY1_crop 124 = .ok (.iadd, 1) := by decide +kernel
theorem dY1_crop_125 : decode cY1_crop 125 = .ok (.iaload, 1) := by decide +kernel
theorem dY1_crop_126 : decode cY1_crop 126 = .ok (.iastore, 1) := by decide +kernel
theorem dY1_crop_127 : decode cY1_crop 127 = .ok (.iinc 7 1, 3) := by decide +kernel
theorem dY1_crop_130 : decode cY1_crop 130 = .ok (.goto (-44), 3) := by decide +kernel
theorem dY1_crop_133 : decode cY1_crop 133 = .ok (.iinc 6 1, 3) := by decide +kernel
theorem dY1_crop_136 : decode cY1_crop 136 = .ok (.goto (-59), 3) := by decide +kernel
theorem dY1_crop_139 : decode cY1_crop 139 = .ok (.iinc 5 1, 3) := by decide +kernel
theorem dY1_crop_142 : decode cY1_crop 142 = .ok (.goto (-75), 3) := by decide +kernel
theorem dY1_crop_145 : decode cY1_crop 145 = .ok (.aload_n 0, 1) := by decide +kernel
theorem dY1_crop_146 : decode cY1_crop 146 = .ok (.iload_n 3, 1) := by decide +kernel
theorem dY1_crop_147 : decode cY1_crop 147 = .ok (.iload 4, 2) := by decide +kernel
theorem dY1_crop_149 : decode cY1_crop 149 = .ok (.invokevirtual 59, 3) := by decide +kernel
theorem dY1_crop_152 : decode cY1_crop 152 = .ok (.iconst 1, 1) := by decide +kernel
theorem dY1_crop_153 : decode cY1_crop 153 = .ok (.ireturn, 1) := by decide +kernel
theorem dY1_swap_0 : decode cY1_swap 0 = .ok (.aload_n 0, 1) := by decide +kernel
theorem dY1_swap_1 : decode cY1_swap 1 = .ok (.iconst 0, 1) := by decide +kernel
theorem dY1_swap_2 : decode cY1_swap 2 = .ok (.putfield 36, 3) := by decide +kernel
theorem dY1_swap_5 : decode cY1_swap 5 = .ok (.aload_n 0, 1) := by decide +kernel
theorem dY1_swap_6 : decode cY1_swap 6 = .ok (.iload_n 1, 1) := by decide +kernel
theorem dY1_swap_7 : decode cY1_swap 7 = .ok (.iload_n 2, 1) := by decide +kernel
theorem dY1_swap_8 : decode cY1_swap 8 = .ok (.invokevirtual 39, 3) := by decide +kernel
theorem dY1_swap_11 : decode cY1_swap 11 = .ok (.ifCond .eq 13, 3) := by decide +kernel
theorem dY1_swap_14 : decode cY1_swap 14 = .ok (.aload_n 0, 1) := by decide +kernel
theorem dY1_swap_15 : decode cY1_swap 15 = .ok (.iload_n 3, 1) := by decide +kernel
theorem dY1_swap_16 : decode cY1_swap 16 = .ok (.iload 4, 2) := by decide +kernel
theorem dY1_swap_18 : decode cY1_swap 18 = .ok (.invokevirtual 39, 3) := by decide +kernel
theorem dY1_swap_21 : decode cY1_swap 21 = .ok (.ifCond .ne 5, 3) := by decide +kernel
theorem dY1_swap_24 : decode cY1_swap 24 = .ok (.iconst 0, 1) := by decide +kernel
theorem dY1_swap_25 : decode cY1_swap 25 = .ok (.ireturn, 1) := by decide +kernel
theorem dY1_swap_26 : decode cY1_swap 26 = .ok (.iconst 0, 1) := by decide +kernel
theorem dY1_swap_27 : decode cY1_swap 27 = .ok (.istore 5, 2) := by decide +kernel
theorem dY1_swap_29 : decode cY1_swap 29 = .ok (.iload 5, 2) := by decide +kernel
theorem dY1_swap_31 : decode cY1_swap 31 = .ok (.bipush 64, 2) := by decide +kernel
theorem dY1_swap_33 : decode cY1_swap 33 = .ok (.if_icmp .ge 67, 3) := by decide +kernel
theorem dY1_swap_36 : decode cY1_swap 36 = .ok (.aload_n 0, 1) := by decide +kernel
theorem dY1_swap_37 : decode cY1_swap 37 = .ok (.getfield 7, 3) := by decide +kernel
theorem dY1_swap_40 : decode cY1_swap 40 = .ok (.iload_n 1, 1) := by decide +kernel
theorem dY1_swap_41 : decode cY1_swap 41 = .ok (.iload_n 2, 1) := by decide +kernel
theorem dY1_swap_42 : decode cY1_swap 42 = .ok (.invokestatic 47, 3) := by decide +kernel
theorem dY1_swap_45 : decode cY1_swap 45 = .ok (.iload 5, 2) := by decide +kernel
theorem dY1_swap_47 : decode cY1_swap 47 = .ok (.iadd, 1) := by decide +kernel
theorem dY1_swap_48 : decode cY1_swap 48 = .ok (.iaload, 1) := by decide +kernel
theorem dY1_swap_49 : decode cY1_swap 49 = .ok (.istore 6, 2) := by decide +kernel
theorem dY1_swap_51 : decode cY1_swap 51 = .ok (.aload_n 0, 1) := by decide +kernel
theorem dY1_swap_52 : decode cY1_swap 52 = .ok (.getfield 7, 3) := by decide +kernel
theorem dY1_swap_55 : decode cY1_swap 55 = .ok (.iload_n 1, 1) := by decide +kernel
theorem dY1_swap_56 : decode cY1_swap 56 = .ok (.iload_n 2, 1) := by decide +kernel
theorem dY1_swap_57 : decode cY1_swap 57 = .ok (.invokestatic 47, 3) := by decide +kernel
theorem dY1_swap_60 : decode cY1_swap 60 = .ok (.iload 5, 2) := by decide +kernel
theorem dY1_swap_62 : decode cY1_swap 62 = .ok (.iadd, 1) := by decide +kernel
theorem dY1_swap_63 : decode cY1_swap 63 = .ok (.aload_n 0, 1) := by decide +kernel
theorem dY1_swap_64 : decode cY1_swap 64 = .ok (.getfield 7, 3) := by decide +kernel
theorem dY1_swap_67 : decode cY1_swap 67 = .ok (.iload_n 3, 1) := by decide +kernel
theorem dY1_swap_68 : decode cY1_swap 68 = .ok (.iload 4, 2) := by decide +kernel
theorem dY1_swap_70 : decode cY1_swap 70 = .ok (.invokestatic 47, 3) := by decide +kernel
theorem dY1_swap_73 : decode cY1_swap 73 = .ok (.iload 5, 2) := by decide +kernel
theorem dY1_swap_75 : decode cY1_swap 75 = .ok (.iadd, 1) := by decide +kernel
theorem dY1_swap_76 : decode cY1_swap 76 = .ok (.iaload, 1) := by decide +kernel
theorem dY1_swap_77 : decode cY1_swap 77 = .ok (.iastore, 1) := by decide +kernel
theorem dY1_swap_78 : decode cY1_swap 78 = .ok (.aload_n 0, 1) := by decide +kernel
theorem dY1_swap_79 : decode cY1_swap 79 = .ok (.getfield 7, 3) := by decide +kernel
theorem dY1_swap_82 : decode cY1_swap 82 = .ok (.iload_n 3, 1) := by decide +kernel
theorem dY1_swap_83 : decode cY1_swap 83 = .ok (.iload 4, 2) := by decide +kernel
theorem dY1_swap_85 : decode cY1_swap 85 = .ok (.invokestatic 47, 3) := by decide +kernel
theorem dY1_swap_88 : decode cY1_swap 88 = .ok (.iload 5, 2) := by decide +kernel
theorem dY1_swap_90 : decode cY1_swap 90 = .ok (.iadd, 1) := by decide +kernel
theorem dY1_swap_91 : decode cY1_swap 91 = .ok (.iload 6, 2) := by decide +kernel
theorem dY1_swap_93 : decode cY1_swap 93 = .ok (.iastore, 1) := by decide +kernel
theorem dY1_swap_94 : decode cY1_swap 94 = .ok (.iinc 5 1, 3) := by decide +kernel
theorem dY1_swap_97 : decode cY1_swap 97 = .ok (.goto (-68), 3) := by decide +kernel
theorem dY1_swap_100 : decode cY1_swap 100 = .ok (.iconst 1, 1) := by decide +kernel
theorem dY1_swap_101 : decode cY1_swap 101 = .ok (.ireturn, 1) := by decide +kernel
theorem dY1_keep_0 : decode cY1_keep 0 = .ok (.aload_n 0, 1) := by decide +kernel
theorem dY1_keep_1 : decode cY1_keep 1 = .ok (.iconst 0, 1) := by decide +kernel
theorem dY1_keep_2 : decode cY1_keep 2 = .ok (.putfield 36, 3) := by decide +kernel
theorem dY1_keep_5 : decode cY1_keep 5 = .ok (.aload_n 0, 1) := by decide +kernel
theorem dY1_keep_6 : decode cY1_keep 6 = .ok (.aload_n 0, 1) := by decide +kernel
theorem dY1_keep_7 : decode cY1_keep 7 = .ok (.getfield 23, 3) := by decide +kernel
theorem dY1_keep_10 : decode cY1_keep 10 = .ok (.putfield 30, 3) := by decide +kernel
theorem dY1_keep_13 : decode cY1_keep 13 = .ok (.aload_n 0, 1) := by decide +kernel
theorem dY1_keep_14 : decode cY1_keep 14 = .ok (.aload_n 0, 1) := by decide +kernel
theorem dY1_keep_15 : decode cY1_keep 15 = .ok (.getfield 27, 3) := by decide +kernel
theorem dY1_keep_18 : decode cY1_keep 18 = .ok (.putfield 33, 3) := by decide +kernel
theorem dY1_keep_21 : decode cY1_keep 21 = .ok (.iconst 0, 1) := by decide +kernel
theorem dY1_keep_22 : decode cY1_keep 22 = .ok (.istore_n 1, 1) := by decide +kernel
theorem dY1_keep_23 : decode cY1_keep 23 = .ok (.iload_n 1, 1) := by decide +kernel
theorem dY1_keep_24 : decode cY1_keep 24 = .ok (.sipush 4096, 3) := by decide +kernel
theorem dY1_keep_27 : decode cY1_keep 27 = .ok (.if_icmp .ge 21, 3) := by decide +kernel
theorem dY1_keep_30 : decode cY1_keep 30 = .ok (.aload_n 0, 1) := by decide +kernel
theorem dY1_keep_31 : decode cY1_keep 31 = .ok (.getfield 13, 3) := by decide +kernel
theorem dY1_keep_34 : decode cY1_keep 34 = .ok (.iload_n 1, 1) := by decide +kernel
theorem dY1_keep_35 : decode cY1_keep 35 = .ok (.aload_n 0, 1) := by decide +kernel
theorem dY1_keep_36 : decode cY1_keep 36 = .ok (.getfield 7, 3) := by decide +kernel
theorem dY1_keep_39 : decode cY1_keep 39 = .ok (.iload_n 1, 1) := by decide +kernel
theorem dY1_keep_40 : decode cY1_keep 40 = .ok (.iaload, 1) := by decide +kernel
theorem dY1_keep_41 : decode cY1_keep 41 = .ok (.iastore, 1) := by decide +kernel
theorem dY1_keep_42 : decode cY1_keep 42 = .ok (.iinc 1 1, 3) := by decide +kernel
theorem dY1_keep_45 : decode cY1_keep 45 = .ok (.goto (-22), 3) := by decide +kernel
theorem dY1_keep_48 : decode cY1_keep 48 = .ok (.return_, 1) := by decide +kernel
theorem dY1_restore_0 : decode cY1_restore 0 = .ok (.aload_n 0, 1) := by decide +kernel
theorem dY1_restore_1 : decode cY1_restore 1 = .ok (.iconst 0, 1) := by decide +kernel
theorem dY1_restore_2 : decode cY1_restore 2 = .ok (.putfield 36, 3) := by decide +kernel
theorem dY1_restore_5 : decode cY1_restore 5 = .ok (.aload_n 0, 1) := by decide +kernel
theorem dY1_restore_6 : decode cY1_restore 6 = .ok (.aload_n 0, 1) := by decide +kernel
theorem dY1_restore_7 : decode cY1_restore 7 = .ok (.getfield 30, 3) := by decide +kernel
theorem dY1_restore_10 : decode cY1_restore 10 = .ok (.putfield 23, 3) := by decide +kernel
theorem dY1_restore_13 : decode cY1_restore 13 = .ok (.aload_n 0, 1) := by decide +kernel
theorem dY1_restore_14 : decode cY1_restore 14 = .ok (.aload_n 0, 1) := by decide +kernel
theorem dY1_restore_15 : decode cY1_restore 15 = .ok (.getfield 33, 3) := by decide +kernel
theorem dY1_restore_18 : decode cY1_restore 18 = .ok (.putfield 27, 3) := by decide +kernel
theorem dY1_restore_21 : decode cY1_restore 21 = .ok (.iconst 0, 1) := by decide +kernel
theorem dY1_restore_22 : decode cY1_restore 22 = .ok (.istore_n 1, 1) := by decide +kernel
theorem dY1_restore_23 : decode cY1_restore 23 = .ok (.iload_n 1, 1) := by decide +kernel
theorem dY1_restore_24 : decode cY1_restore 24 = .ok (.sipush 4096, 3) := by decide +kernel
theorem dY1_restore_27 : decode cY1_restore 27 = .ok (.if_icmp .ge 21, 3) := by decide +kernel
theorem dY1_restore_30 : decode cY1_restore 30 = .ok (.aload_n 0, 1) := by decide +kernel
theorem dY1_restore_31 : decode cY1_restore 31 = .ok (.getfield 7, 3) := by decide +kernel
theorem dY1_restore_34 : decode cY1_restore 34 = .ok (.iload_n 1, 1) := by decide +kernel
theorem dY1_restore_35 : decode cY1_restore 35 = .ok (.aload_n 0, 1) := by decide +kernel
theorem dY1_restore_36 : decode cY1_restore 36 = .ok (.getfield 13, 3) := by decide +kernel
theorem dY1_restore_39 : decode cY1_restore 39 = .ok (.iload_n 1, 1) := by decide +kernel
theorem dY1_restore_40 : decode cY1_restore 40 = .ok (.iaload, 1) := by decide +kernel
theorem dY1_restore_41 : decode cY1_restore 41 = .ok (.iastore, 1) := by decide +kernel
theorem dY1_restore_42 : decode cY1_restore 42 = .ok (.iinc 1 1, 3) := by decide +kernel
theorem dY1_restore_45 : decode cY1_restore 45 = .ok (.goto (-22), 3) := by decide +kernel
theorem dY1_restore_48 : decode cY1_restore 48 = .ok (.return_, 1) := by decide +kernel
theorem dY1_differ_0 : decode cY1_differ 0 = .ok (.aload_n 0, 1) := by decide +kernel
theorem dY1_differ_1 : decode cY1_differ 1 = .ok (.iconst 0, 1) := by decide +kernel
theorem dY1_differ_2 : decode cY1_differ 2 = .ok (.putfield 36, 3) := by decide +kernel
theorem dY1_differ_5 : decode cY1_differ 5 = .ok (.aload_n 0, 1) := by decide +kernel
theorem dY1_differ_6 : decode cY1_differ 6 = .ok (.getfield 23, 3) := by decide +kernel
theorem dY1_differ_9 : decode cY1_differ 9 = .ok (.aload_n 0, 1) := by decide +kernel
theorem dY1_differ_10 : decode cY1_differ 10 = .ok (.getfield 30, 3) := by decide +kernel
theorem dY1_differ_13 : decode cY1_differ 13 = .ok (.if_icmp .ne 14, 3) := by decide +kernel
theorem dY1_differ_16 : decode cY1_differ 16 = .ok (.aload_n 0, 1) := by decide +kernel
theorem dY1_differ_17 : decode cY1_differ 17 = .ok (.getfield 27, 3) := by decide +kernel
theorem dY1_differ_20 : decode cY1_differ 20 = .ok (.aload_n 0, 1) := by decide +kernel
theorem dY1_differ_21 : decode cY1_differ 21 = .ok (.getfield 33, 3) := by decide +kernel
theorem dY1_differ_24 : decode cY1_differ 24 = .ok (.if_icmp .eq 5, 3) := by decide +kernel
theorem dY1_differ_27 : decode cY1_differ 27 = .ok (.iconst (-1), 1) := by decide +kernel
theorem dY1_differ_28 : decode cY1_differ 28 = .ok (.ireturn, 1) := by decide +kernel
theorem dY1_differ_29 : decode cY1_differ 29 = .ok (.iconst 0, 1) := by decide +kernel
theorem dY1_differ_30 : decode cY1_differ 30 = .ok (.istore_n 1, 1) := by decide +kernel
theorem dY1_differ_31 : decode cY1_differ 31 = .ok (.iconst 0, 1) := by decide +kernel
theorem dY1_differ_32 : decode cY1_differ 32 = .ok (.istore_n 2, 1) := by decide +kernel
theorem dY1_differ_33 : decode cY1_differ 33 = .ok (.iload_n 2, 1) := by decide +kernel
theorem dY1_differ_34 : decode cY1_differ 34 = .ok (.aload_n 0, 1) := by decide +kernel
theorem dY1_differ_35 : decode cY1_differ 35 = .ok (.getfield 27, 3) := by decide +kernel
theorem dY1_differ_38 : decode cY1_differ 38 = .ok (.if_icmp .ge 78, 3) := by decide +kernel
theorem dY1_differ_41 : decode cY1_differ 41 = .ok (.iconst 0, 1) := by decide +kernel
theorem dY1_differ_42 : decode cY1_differ 42 = .ok (.istore_n 3, 1) := by decide +kernel
theorem dY1_differ_43 : decode cY1_differ 43 = .ok (.iload_n 3, 1) := by decide +kernel
theorem dY1_differ_44 : decode cY1_differ 44 = .ok (.aload_n 0, 1) := by decide +kernel
theorem dY1_differ_45 : decode cY1_differ 45 = .ok (.getfield 23, 3) := by decide +kernel
theorem dY1_differ_48 : decode cY1_differ 48 = .ok (.if_icmp .ge 62, 3) := by decide +kernel
theorem dY1_differ_51 : decode cY1_differ 51 = .ok (.iconst 0, 1) := by decide +kernel
theorem dY1_differ_52 : decode cY1_differ 52 = .ok (.istore 4, 2) := by decide +kernel
theorem dY1_differ_54 : decode cY1_differ 54 = .ok (.iload 4, 2) := by decide +kernel
theorem dY1_differ_56 : decode cY1_differ 56 = .ok (.bipush 64, 2) := by decide +kernel
theorem dY1_differ_58 : decode cY1_differ 58 = .ok (.if_icmp .ge 46, 3) := by decide +kernel
theorem dY1_differ_61 : decode cY1_differ 61 = .ok (.iload_n 1, 1) := by decide +kernel
theorem dY1_differ_62 : decode cY1_differ 62 = .ok (.aload_n 0, 1) := by decide +kernel
theorem dY1_differ_63 : decode cY1_differ 63 = .ok (.getfield 7, 3) := by decide +kernel
theorem dY1_differ_66 : decode cY1_differ 66 = .ok (.iload_n 3, 1) := by decide +kernel
theorem dY1_differ_67 : decode cY1_differ 67 = .ok (.iload_n 2, 1) := by decide +kernel
theorem dY1_differ_68 : decode cY1_differ 68 = .ok (.invokestatic 47, 3) := by decide +kernel
theorem dY1_differ_71 : decode cY1_differ 71 = .ok (.iload 4, 2) := by decide +kernel
theorem dY1_differ_73 : decode cY1_differ 73 = .ok (.iadd, 1) := by decide +kernel
theorem dY1_differ_74 : decode cY1_differ 74 = .ok (.iaload, 1) := by decide +kernel
theorem dY1_differ_75 : decode cY1_differ 75 = .ok (.aload_n 0, 1) := by decide +kernel
theorem dY1_differ_76 : decode cY1_differ 76 = .ok (.getfield 13, 3) := by decide +kernel
theorem dY1_differ_79 : decode cY1_differ 79 = .ok (.iload_n 3, 1) := by decide +kernel
theorem dY1_differ_80 : decode cY1_differ 80 = .ok (.iload_n 2, 1) := by decide +kernel
theorem dY1_differ_81 : decode cY1_differ 81 = .ok (.invokestatic 47, 3) := by decide +kernel
theorem dY1_differ_84 : decode cY1_differ 84 = .ok (.iload 4, 2) := by decide +kernel
theorem dY1_differ_86 : decode cY1_differ 86 = .ok (.iadd, 1) := by decide +kernel
theorem dY1_differ_87 : decode cY1_differ 87 = .ok (.iaload, 1) := by decide +kernel
theorem dY1_differ_88 : decode cY1_differ 88 = .ok (.if_icmp .eq 7, 3) := by decide +kernel
theorem dY1_differ_91 : decode cY1_differ 91 = .ok (.iconst 1, 1) := by decide +kernel
theorem dY1_differ_92 : decode cY1_differ 92 = .ok (.goto 4, 3) := by decide +kernel
theorem dY1_differ_95 : decode cY1_differ 95 = .ok (.iconst 0, 1) := by decide +kernel
theorem dY1_differ_96 : decode cY1_differ 96 = .ok (.iadd, 1) := by decide +kernel
theorem dY1_differ_97 : decode cY1_differ 97 = .ok (.istore_n 1, 1) := by decide +kernel
theorem dY1_differ_98 : decode cY1_differ 98 = .ok (.iinc 4 1, 3) := by decide +kernel
theorem dY1_differ_101 : decode cY1_differ 101 = .ok (.goto (-47), 3) := by decide +kernel
theorem dY1_differ_104 : decode cY1_differ 104 = .ok (.iinc 3 1, 3) := by decide +kernel
theorem dY1_differ_107 : decode cY1_differ 107 = .ok (.goto (-64), 3) := by decide +kernel
theorem dY1_differ_110 : decode cY1_differ 110 = .ok (.iinc 2 1, 3) := by decide +kernel
theorem dY1_differ_113 : decode cY1_differ 113 = .ok (.goto (-80), 3) := by decide +kernel
theorem dY1_differ_116 : decode cY1_differ 116 = .ok (.iload_n 1, 1) := by decide +kernel
theorem dY1_differ_117 : decode cY1_differ 117 = .ok (.ireturn, 1) := by decide +kernel
theorem dY1_at_0 : decode cY1_at 0 = .ok (.aload_n 0, 1) := by decide +kernel
theorem dY1_at_1 : decode cY1_at 1 = .ok (.iconst 0, 1) := by decide +kernel
theorem dY1_at_2 : decode cY1_at 2 = .ok (.putfield 36, 3) := by decide +kernel
theorem dY1_at_5 : decode cY1_at 5 = .ok (.aload_n 0, 1) := by decide +kernel
theorem dY1_at_6 : decode cY1_at 6 = .ok (.iload_n 1, 1) := by decide +kernel
theorem dY1_at_7 : decode cY1_at 7 = .ok (.iload_n 2, 1) := by decide +kernel
theorem dY1_at_8 : decode cY1_at 8 = .ok (.invokevirtual 39, 3) := by decide +kernel
theorem dY1_at_11 : decode cY1_at 11 = .ok (.ifCond .eq 25, 3) := by decide +kernel
theorem dY1_at_14 : decode cY1_at 14 = .ok (.iload_n 3, 1) := by decide +kernel
theorem dY1_at_15 : decode cY1_at 15 = .ok (.invokestatic 43, 3) := by decide +kernel
theorem dY1_at_18 : decode cY1_at 18 = .ok (.ifCond .eq 18, 3) := by decide +kernel
theorem dY1_at_21 : decode cY1_at 21 = .ok (.aload_n 0, 1) := by decide +kernel
theorem dY1_at_22 : decode cY1_at 22 = .ok (.getfield 7, 3) := by decide +kernel
theorem dY1_at_25 : decode cY1_at 25 = .ok (.iload_n 1, 1) := by decide +kernel
theorem dY1_at_26 : decode cY1_at 26 = .ok (.iload_n 2, 1) := by decide +kernel
theorem dY1_at_27 : decode cY1_at 27 = .ok (.invokestatic 47, 3) := by decide +kernel
theorem dY1_at_30 : decode cY1_at 30 = .ok (.iload_n 3, 1) := by decide +kernel
theorem dY1_at_31 : decode cY1_at 31 = .ok (.iadd, 1) := by decide +kernel
theorem dY1_at_32 : decode cY1_at 32 = .ok (.iaload, 1) := by decide +kernel
theorem dY1_at_33 : decode cY1_at 33 = .ok (.goto 4, 3) := by decide +kernel
theorem dY1_at_36 : decode cY1_at 36 = .ok (.iconst 0, 1) := by decide +kernel
theorem dY1_at_37 : decode cY1_at 37 = .ok (.ireturn, 1) := by decide +kernel
theorem dY1_four_0 : decode cY1_four 0 = .ok (.aload_n 0, 1) := by decide +kernel
theorem dY1_four_1 : decode cY1_four 1 = .ok (.iconst 0, 1) := by decide +kernel
theorem dY1_four_2 : decode cY1_four 2 = .ok (.putfield 36, 3) := by decide +kernel
theorem dY1_four_5 : decode cY1_four 5 = .ok (.aload_n 0, 1) := by decide +kernel
theorem dY1_four_6 : decode cY1_four 6 = .ok (.iload_n 1, 1) := by decide +kernel
theorem dY1_four_7 : decode cY1_four 7 = .ok (.iload_n 2, 1) := by decide +kernel
theorem dY1_four_8 : decode cY1_four 8 = .ok (.invokevirtual 39, 3) := by decide +kernel
theorem dY1_four_11 : decode cY1_four 11 = .ok (.ifCond .eq 24, 3) := by decide +kernel
theorem dY1_four_14 : decode cY1_four 14 = .ok (.iload_n 3, 1) := by decide +kernel
theorem dY1_four_15 : decode cY1_four 15 = .ok (.ifCond .lt 20, 3) := by decide +kernel
theorem dY1_four_18 : decode cY1_four 18 = .ok (.iload_n 3, 1) := by decide +kernel
theorem dY1_four_19 : decode cY1_four 19 = .ok (.bipush 7, 2) := by decide +kernel
theorem dY1_four_21 : decode cY1_four 21 = .ok (.if_icmp .gt 14, 3) := by decide +kernel
theorem dY1_four_24 : decode cY1_four 24 = .ok (.iload 4, 2) := by decide +kernel
theorem dY1_four_26 : decode cY1_four 26 = .ok (.ifCond .lt 9, 3) := by decide +kernel
theorem dY1_four_29 : decode cY1_four 29 = .ok (.iload 4, 2) := by decide +kernel
theorem dY1_four_31 : decode cY1_four 31 = .ok (.iconst 1, 1) := by decide +kernel
theorem dY1_four_32 : decode cY1_four 32 = .ok (.if_icmp .le 5, 3) := by decide +kernel
theorem dY1_four_35 : decode cY1_four 35 = .ok (.lconst 0, 1) := by decide +kernel
theorem dY1_four_36 : decode cY1_four 36 = .ok (.lreturn, 1) := by decide +kernel
theorem dY1_four_37 : decode cY1_four 37 = .ok (.lconst 0, 1) := by decide +kernel
theorem dY1_four_38 : decode cY1_four 38 = .ok (.lstore 5, 2) := by decide +kernel
theorem dY1_four_40 : decode cY1_four 40 = .ok (.iconst 0, 1) := by decide +kernel
theorem dY1_four_41 : decode cY1_four 41 = .ok (.istore 7, 2) := by decide +kernel
theorem dY1_four_43 : decode cY1_four 43 = .ok (.iload 7, 2) := by decide +kernel
theorem dY1_four_45 : decode cY1_four 45 = .ok (.iconst 4, 1) := by decide +kernel
theorem dY1_four_46 : decode cY1_four 46 = .ok (.if_icmp .ge 45, 3) := by decide +kernel
theorem dY1_four_49 : decode cY1_four 49 = .ok (.lload 5, 2) := by decide +kernel
theorem dY1_four_51 : decode cY1_four 51 = .ok (.bipush 16, 2) := by decide +kernel
theorem dY1_four_53 : decode cY1_four 53 = .ok (.lshl, 1) := by decide +kernel
theorem dY1_four_54 : decode cY1_four 54 = .ok (.aload_n 0, 1) := by decide +kernel
theorem dY1_four_55 : decode cY1_four 55 = .ok (.getfield 7, 3) := by decide +kernel
theorem dY1_four_58 : decode cY1_four 58 = .ok (.iload_n 1, 1) := by decide +kernel
theorem dY1_four_59 : decode cY1_four 59 = .ok (.iload_n 2, 1) := by decide +kernel
theorem dY1_four_60 : decode cY1_four 60 = .ok (.invokestatic 47, 3) := by decide +kernel
theorem dY1_four_63 : decode cY1_four 63 = .ok (.bipush 8, 2) := by decide +kernel
theorem dY1_four_65 : decode cY1_four 65 = .ok (.iload_n 3, 1) := by decide +kernel
theorem dY1_four_66 : decode cY1_four 66 = .ok (.imul, 1) := by decide +kernel
theorem dY1_four_67 : decode cY1_four 67 = .ok (.iadd, 1) := by decide +kernel
theorem dY1_four_68 : decode cY1_four 68 = .ok (.iconst 4, 1) := by decide +kernel
theorem dY1_four_69 : decode cY1_four 69 = .ok (.iload 4, 2) := by decide +kernel
theorem dY1_four_71 : decode cY1_four 71 = .ok (.imul, 1) := by decide +kernel
theorem dY1_four_72 : decode cY1_four 72 = .ok (.iadd, 1) := by decide +kernel
theorem dY1_four_73 : decode cY1_four 73 = .ok (.iload 7, 2) := by decide +kernel
theorem dY1_four_75 : decode cY1_four 75 = .ok (.iadd, 1) := by decide +kernel
theorem dY1_four_76 : decode cY1_four 76 = .ok (.iaload, 1) := by decide +kernel
theorem dY1_four_77 : decode cY1_four 77 = .ok (.i2l, 1) := by decide +kernel
theorem dY1_four_78 : decode cY1_four 78 = .ok (.ldc2_w 72, 3) := by decide +kernel
theorem dY1_four_81 : decode cY1_four 81 = .ok (.land, 1) := by decide +kernel
theorem dY1_four_82 : decode cY1_four 82 = .ok (.lor, 1) := by decide +kernel
theorem dY1_four_83 : decode cY1_four 83 = .ok (.lstore 5, 2) := by decide +kernel
theorem dY1_four_85 : decode cY1_four 85 = .ok (.iinc 7 1, 3) := by decide +kernel
theorem dY1_four_88 : decode cY1_four 88 = .ok (.goto (-45), 3) := by decide +kernel
theorem dY1_four_91 : decode cY1_four 91 = .ok (.lload 5, 2) := by decide +kernel
theorem dY1_four_93 : decode cY1_four 93 = .ok (.lreturn, 1) := by decide +kernel
theorem dY1_sum_0 : decode cY1_sum 0 = .ok (.aload_n 0, 1) := by decide +kernel
theorem dY1_sum_1 : decode cY1_sum 1 = .ok (.iload_n 1, 1) := by decide +kernel
theorem dY1_sum_2 : decode cY1_sum 2 = .ok (.invokestatic 43, 3) := by decide +kernel
theorem dY1_sum_5 : decode cY1_sum 5 = .ok (.ifCond .eq 7, 3) := by decide +kernel
theorem dY1_sum_8 : decode cY1_sum 8 = .ok (.iconst 0, 1) := by decide +kernel
theorem dY1_sum_9 : decode cY1_sum 9 = .ok (.goto 4, 3) := by decide +kernel
theorem dY1_sum_12 : decode cY1_sum 12 = .ok (.iconst 1, 1) := by decide +kernel
theorem dY1_sum_13 : decode cY1_sum 13 = .ok (.putfield 36, 3) := by decide +kernel
theorem dY1_sum_16 : decode cY1_sum 16 = .ok (.lconst 0, 1) := by decide +kernel
theorem dY1_sum_17 : decode cY1_sum 17 = .ok (.lstore_n 2, 1) := by decide +kernel
theorem dY1_sum_18 : decode cY1_sum 18 = .ok (.iconst 0, 1) := by decide +kernel
theorem dY1_sum_19 : decode cY1_sum 19 = .ok (.istore 4, 2) := by decide +kernel
theorem dY1_sum_21 : decode cY1_sum 21 = .ok (.iload 4, 2) := by decide +kernel
theorem dY1_sum_23 : decode cY1_sum 23 = .ok (.aload_n 0, 1) := by decide +kernel
theorem dY1_sum_24 : decode cY1_sum 24 = .ok (.getfield 27, 3) := by decide +kernel
theorem dY1_sum_27 : decode cY1_sum 27 = .ok (.if_icmp .ge 64, 3) := by decide +kernel
theorem dY1_sum_30 : decode cY1_sum 30 = .ok (.aload_n 0, 1) := by decide +kernel
theorem dY1_sum_31 : decode cY1_sum 31 = .ok (.getfield 36, 3) := by decide +kernel
theorem dY1_sum_34 : decode cY1_sum 34 = .ok (.ifCond .ne 57, 3) := by decide +kernel
theorem dY1_sum_37 : decode cY1_sum 37 = .ok (.iconst 0, 1) := by decide +kernel
theorem dY1_sum_38 : decode cY1_sum 38 = .ok (.istore 5, 2) := by decide +kernel
theorem dY1_sum_40 : decode cY1_sum 40 = .ok (.iload 5, 2) := by decide +kernel
theorem dY1_sum_42 : decode cY1_sum 42 = .ok (.aload_n 0, 1) := by decide +kernel
theorem dY1_sum_43 : decode cY1_sum 43 = .ok (.getfield 23, 3) := by decide +kernel
theorem dY1_sum_46 : decode cY1_sum 46 = .ok (.if_icmp .ge 39, 3) := by decide +kernel
theorem dY1_sum_49 : decode cY1_sum 49 = .ok (.lload_n 2, 1) := by decide +kernel
theorem dY1_sum_50 : decode cY1_sum 50 = .ok (.aload_n 0, 1) := by decide +kernel
theorem dY1_sum_51 : decode cY1_sum 51 = .ok (.getfield 7, 3) := by decide +kernel
theorem dY1_sum_54 : decode cY1_sum 54 = .ok (.iload 5, 2) := by decide +kernel
theorem dY1_sum_56 : decode cY1_sum 56 = .ok (.iload 4, 2) := by decide +kernel
theorem dY1_sum_58 : decode cY1_sum 58 = .ok (.invokestatic 47, 3) := by decide +kernel
theorem dY1_sum_61 : decode cY1_sum 61 = .ok (.iload_n 1, 1) := by decide +kernel
theorem dY1_sum_62 : decode cY1_sum 62 = .ok (.iadd, 1) := by decide +kernel
theorem dY1_sum_63 : decode cY1_sum 63 = .ok (.iaload, 1) := by decide +kernel
theorem dY1_sum_64 : decode cY1_sum 64 = .ok (.i2l, 1) := by decide +kernel
theorem dY1_sum_65 : decode cY1_sum 65 = .ok (.iconst 1, 1) := by decide +kernel
theorem dY1_sum_66 : decode cY1_sum 66 = .ok (.iload 5, 2) := by decide +kernel
theorem dY1_sum_68 : decode cY1_sum 68 = .ok (.iadd, 1) := by decide +kernel
theorem dY1_sum_69 : decode cY1_sum 69 = .ok (.bipush 8, 2) := by decide +kernel
theorem dY1_sum_71 : decode cY1_sum 71 = .ok (.iload 4, 2) := by decide +kernel
theorem dY1_sum_73 : decode cY1_sum 73 = .ok (.imul, 1) := by decide +kernel
theorem dY1_sum_74 : decode cY1_sum 74 = .ok (.iadd, 1) := by decide +kernel
theorem dY1_sum_75 : decode cY1_sum 75 = .ok (.i2l, 1) := by decide +kernel
theorem dY1_sum_76 : decode cY1_sum 76 = .ok (.lmul, 1) := by decide +kernel
theorem dY1_sum_77 : decode cY1_sum 77 = .ok (.ladd, 1) := by decide +kernel
theorem dY1_sum_78 : decode cY1_sum 78 = .ok (.lstore_n 2, 1) := by decide +kernel
theorem dY1_sum_79 : decode cY1_sum 79 = .ok (.iinc 5 1, 3) := by decide +kernel
theorem dY1_sum_82 : decode cY1_sum 82 = .ok (.goto (-42), 3) := by decide +kernel
theorem dY1_sum_85 : decode cY1_sum 85 = .ok (.iinc 4 1, 3) := by decide +kernel
theorem dY1_sum_88 : decode cY1_sum 88 = .ok (.goto (-67), 3) := by decide +kernel
theorem dY1_sum_91 : decode cY1_sum 91 = .ok (.lload_n 2, 1) := by decide +kernel
theorem dY1_sum_92 : decode cY1_sum 92 = .ok (.lreturn, 1) := by decide +kernel
theorem dY1_lookAll_0 : decode cY1_lookAll 0 = .ok (.iconst 0, 1) := by decide +kernel
theorem dY1_lookAll_1 : decode cY1_lookAll 1 = .ok (.istore_n 2, 1) := by decide +kernel
theorem dY1_lookAll_2 : decode cY1_lookAll 2 = .ok (.iconst 0, 1) := by decide +kernel
theorem dY1_lookAll_3 : decode cY1_lookAll 3 = .ok (.istore_n 3, 1) := by decide +kernel
theorem dY1_lookAll_4 : decode cY1_lookAll 4 = .ok (.iconst 0, 1) := by decide +kernel
theorem dY1_lookAll_5 : decode cY1_lookAll 5 = .ok (.istore 4, 2) := by decide +kernel
theorem dY1_lookAll_7 : decode cY1_lookAll 7 = .ok (.iload 4, 2) := by decide +kernel
theorem dY1_lookAll_9 : decode cY1_lookAll 9 = .ok (.aload_n 0, 1) := by decide +kernel
theorem dY1_lookAll_10 : decode cY1_lookAll 10 = .ok (.getfield 27, 3) := by decide +kernel
theorem dY1_lookAll_13 : decode cY1_lookAll 13 = .ok (.if_icmp .ge 99, 3) := by decide +kernel
theorem dY1_lookAll_16 : decode cY1_lookAll 16 = .ok (.iconst 0, 1) := by decide +kernel
theorem dY1_lookAll_17 : decode cY1_lookAll 17 = .ok (.istore 5, 2) := by decide +kernel
theorem dY1_lookAll_19 : decode cY1_lookAll 19 = .ok (.iload 5, 2) := by decide +kernel
theorem dY1_lookAll_21 : decode cY1_lookAll 21 = .ok (.aload_n 0, 1) := by decide +kernel
theorem dY1_lookAll_22 : decode cY1_lookAll 22 = .ok (.getfield 23, 3) := by decide +kernel
theorem dY1_lookAll_25 : decode cY1_lookAll 25 = .ok (.if_icmp .ge 81, 3) := by decide +kernel
theorem dY1_lookAll_28 : decode cY1_lookAll 28 = .ok (.iconst 0, 1) := by decide +kernel
theorem dY1_lookAll_29 : decode cY1_lookAll 29 = .ok (.istore 6, 2) := by decide +kernel
theorem dY1_lookAll_31 : decode cY1_lookAll 31 = .ok (.iload 6, 2) := by decide +kernel
theorem dY1_lookAll_33 : decode cY1_lookAll 33 = .ok (.bipush 64, 2) := by decide +kernel
theorem dY1_lookAll_35 : decode cY1_lookAll 35 = .ok (.if_icmp .ge 65, 3) := by decide +kernel
theorem dY1_lookAll_38 : decode cY1_lookAll 38 = .ok (.aload_n 0, 1) := by decide +kernel
theorem dY1_lookAll_39 : decode cY1_lookAll 39 = .ok (.getfield 7, 3) := by decide +kernel
theorem dY1_lookAll_42 : decode cY1_lookAll 42 = .ok (.iload 5, 2) := by decide +kernel
theorem dY1_lookAll_44 : decode cY1_lookAll 44 = .ok (.iload 4, 2) := by decide +kernel
theorem dY1_lookAll_46 : decode cY1_lookAll 46 = .ok (.invokestatic 47, 3) := by decide +kernel
theorem dY1_lookAll_49 : decode cY1_lookAll 49 = .ok (.iload 6, 2) := by decide +kernel
theorem dY1_lookAll_51 : decode cY1_lookAll 51 = .ok (.iadd, 1) := by decide +kernel
theorem dY1_lookAll_52 : decode cY1_lookAll 52 = .ok (.iaload, 1) := by decide +kernel
theorem dY1_lookAll_53 : decode cY1_lookAll 53 = .ok (.istore 7, 2) := by decide +kernel
theorem dY1_lookAll_55 : decode cY1_lookAll 55 = .ok (.iload_n 2, 1) := by decide +kernel
theorem dY1_lookAll_56 : decode cY1_lookAll 56 = .ok (.iload 7, 2) := by decide +kernel
theorem dY1_lookAll_58 : decode cY1_lookAll 58 = .ok (.ifCond .eq 7, 3) := by decide +kernel
theorem dY1_lookAll_61 : decode cY1_lookAll 61 = .ok (.iconst 1, 1) := by decide +kernel
theorem dY1_lookAll_62 : decode cY1_lookAll 62 = .ok (.goto 4, 3) := by decide +kernel
theorem dY1_lookAll_65 : decode cY1_lookAll 65 = .ok (.iconst 0, 1) := by decide +kernel
theorem dY1_lookAll_66 : decode cY1_lookAll 66 = .ok (.iadd, 1) := by decide +kernel
theorem dY1_lookAll_67 : decode cY1_lookAll 67 = .ok (.istore_n 2, 1) := by decide +kernel
theorem dY1_lookAll_68 : decode cY1_lookAll 68 = .ok (.iload 7, 2) := by decide +kernel
theorem dY1_lookAll_70 : decode cY1_lookAll 70 = .ok (.iload_n 3, 1) := by decide +kernel
theorem dY1_lookAll_71 : decode cY1_lookAll 71 = .ok (.if_icmp .le 8, 3) := by decide +kernel
theorem dY1_lookAll_74 : decode cY1_lookAll 74 = .ok (.iload 7, 2) := by decide +kernel
theorem dY1_lookAll_76 : decode cY1_lookAll 76 = .ok (.goto 17, 3) := by decide +kernel
theorem dY1_lookAll_79 : decode cY1_lookAll 79 = .ok (.iload 7, 2) := by decide +kernel
theorem dY1_lookAll_81 : decode cY1_lookAll 81 = .ok (.ineg, 1) := by decide +kernel
theorem dY1_lookAll_82 : decode cY1_lookAll 82 = .ok (.iload_n 3, 1) := by decide +kernel
theorem dY1_lookAll_83 : decode cY1_lookAll 83 = .ok (.if_icmp .le 9, 3) := by decide +kernel
theorem dY1_lookAll_86 : decode cY1_lookAll 86 = .ok (.iload 7, 2) := by decide +kernel
theorem dY1_lookAll_88 : decode cY1_lookAll 88 = .ok (.ineg, 1) := by decide +kernel
theorem dY1_lookAll_89 : decode cY1_lookAll 89 = .ok (.goto 4, 3) := by decide +kernel
theorem dY1_lookAll_92 : decode cY1_lookAll 92 = .ok (.iload_n 3, 1) := by decide +kernel
theorem dY1_lookAll_93 : decode cY1_lookAll 93 = .ok (.istore_n 3, 1) := by decide +kernel
theorem dY1_lookAll_94 : decode cY1_lookAll 94 = .ok (.iinc 6 1, 3) := by decide +kernel
theorem dY1_lookAll_97 : decode cY1_lookAll 97 = .ok (.goto (-66), 3) := by decide +kernel
theorem dY1_lookAll_100 : decode cY1_lookAll 100 = .ok (.iinc 5 1, 3) := by decide +kernel
theorem dY1_lookAll_103 : decode cY1_lookAll 103 = .ok (.goto (-84), 3) := by decide +kernel
theorem dY1_lookAll_106 : decode cY1_lookAll 106 = .ok (.iinc 4 1, 3) := by decide +kernel
theorem dY1_lookAll_109 : decode cY1_lookAll 109 = .ok (.goto (-102), 3) := by decide +kernel
theorem dY1_lookAll_112 : decode cY1_lookAll 112 = .ok (.iload_n 1, 1) := by decide +kernel
theorem dY1_lookAll_113 : decode cY1_lookAll 113 = .ok (.ifCond .eq 7, 3) := by decide +kernel
theorem dY1_lookAll_116 : decode cY1_lookAll 116 = .ok (.iload_n 2, 1) := by decide +kernel
theorem dY1_lookAll_117 : decode cY1_lookAll 117 = .ok (.goto 4, 3) := by decide +kernel
theorem dY1_lookAll_120 : decode cY1_lookAll 120 = .ok (.iload_n 3, 1) := by decide +kernel
theorem dY1_lookAll_121 : decode cY1_lookAll 121 = .ok (.ireturn, 1) := by decide +kernel
theorem dY1_look_0 : decode cY1_look 0 = .ok (.aload_n 0, 1) := by decide +kernel
theorem dY1_look_1 : decode cY1_look 1 = .ok (.iconst 0, 1) := by decide +kernel
theorem dY1_look_2 : decode cY1_look 2 = .ok (.putfield 36, 3) := by decide +kernel
theorem dY1_look_5 : decode cY1_look 5 = .ok (.iload_n 1, 1) := by decide +kernel
theorem dY1_look_6 : decode cY1_look 6 = .ok (.tableswitch 70 0 5 #[38, 43, 48, 54, 60, 65], 38) := by decide +kernel
theorem dY1_look_44 : decode cY1_look 44 = .ok (.aload_n 0, 1) := by decide +kernel
theorem dY1_look_45 : decode cY1_look 45 = .ok (.getfield 23, 3) := by decide +kernel
theorem dY1_look_48 : decode cY1_look 48 = .ok (.ireturn, 1) := by decide +kernel
theorem dY1_look_49 : decode cY1_look 49 = .ok (.aload_n 0, 1) := by decide +kernel
theorem dY1_look_50 : decode cY1_look 50 = .ok (.getfield 27, 3) := by decide +kernel
theorem dY1_look_53 : decode cY1_look 53 = .ok (.ireturn, 1) := by decide +kernel
theorem dY1_look_54 : decode cY1_look 54 = .ok (.aload_n 0, 1) := by decide +kernel
theorem dY1_look_55 : decode cY1_look 55 = .ok (.iconst 1, 1) := by decide +kernel
theorem dY1_look_56 : decode cY1_look 56 = .ok (.invokevirtual 74, 3) := by decide +kernel
theorem dY1_look_59 : decode cY1_look 59 = .ok (.ireturn, 1) := by decide +kernel
theorem dY1_look_60 : decode cY1_look 60 = .ok (.aload_n 0, 1) := by decide +kernel
theorem dY1_look_61 : decode cY1_look 61 = .ok (.iconst 0, 1) := by decide +kernel
theorem dY1_look_62 : decode cY1_look 62 = .ok (.invokevirtual 74, 3) := by decide +kernel
theorem dY1_look_65 : decode cY1_look 65 = .ok (.ireturn, 1) := by decide +kernel
theorem dY1_look_66 : decode cY1_look 66 = .ok (.aload_n 0, 1) := by decide +kernel
theorem dY1_look_67 : decode cY1_look 67 = .ok (.getfield 30, 3) := by decide +kernel
theorem dY1_look_70 : decode cY1_look 70 = .ok (.ireturn, 1) := by decide +kernel
theorem dY1_look_71 : decode cY1_look 71 = .ok (.aload_n 0, 1) := by decide +kernel
theorem dY1_look_72 : decode cY1_look 72 = .ok (.getfield 33, 3) := by decide +kernel
theorem dY1_look_75 : decode cY1_look 75 = .ok (.ireturn, 1) := by decide +kernel
theorem dY1_look_76 : decode cY1_look 76 = .ok (.iconst (-1), 1) := by decide +kernel
theorem dY1_look_77 : decode cY1_look 77 = .ok (.ireturn, 1) := by decide +kernel
theorem dX0_sum_0 : decode cX0_sum 0 = .ok (.iload_n 1, 1) := by decide +kernel
theorem dX0_sum_1 : decode cX0_sum 1 = .ok (.invokestatic 37, 3) := by decide +kernel
theorem dX0_sum_4 : decode cX0_sum 4 = .ok (.ifCond .ne 13, 3) := by decide +kernel
theorem dX0_sum_7 : decode cX0_sum 7 = .ok (.new 41, 3) := by decide +kernel
theorem dX0_sum_10 : decode cX0_sum 10 = .ok (.dup, 1) := by decide +kernel
theorem dX0_sum_11 : decode cX0_sum 11 = .ok (.ldc 98, 2) := by decide +kernel
theorem dX0_sum_13 : decode cX0_sum 13 = .ok (.invokespecial 45, 3) := by decide +kernel
theorem dX0_sum_16 : decode cX0_sum 16 = .ok (.athrow, 1) := by decide +kernel
theorem dX0_sum_17 : decode cX0_sum 17 = .ok (.lconst 0, 1) := by decide +kernel
theorem dX0_sum_18 : decode cX0_sum 18 = .ok (.lstore_n 2, 1) := by decide +kernel
theorem dX0_sum_19 : decode cX0_sum 19 = .ok (.iconst 0, 1) := by decide +kernel
theorem dX0_sum_20 : decode cX0_sum 20 = .ok (.istore 4, 2) := by decide +kernel
theorem dX0_sum_22 : decode cX0_sum 22 = .ok (.iload 4, 2) := by decide +kernel
theorem dX0_sum_24 : decode cX0_sum 24 = .ok (.aload_n 0, 1) := by decide +kernel
theorem dX0_sum_25 : decode cX0_sum 25 = .ok (.getfield 17, 3) := by decide +kernel
theorem dX0_sum_28 : decode cX0_sum 28 = .ok (.if_icmp .ge 61, 3) := by decide +kernel
theorem dX0_sum_31 : decode cX0_sum 31 = .ok (.iconst 0, 1) := by decide +kernel
theorem dX0_sum_32 : decode cX0_sum 32 = .ok (.istore 5, 2) := by decide +kernel
theorem dX0_sum_34 : decode cX0_sum 34 = .ok (.iload 5, 2) := by decide +kernel
theorem dX0_sum_36 : decode cX0_sum 36 = .ok (.aload_n 0, 1) := by decide +kernel
theorem dX0_sum_37 : decode cX0_sum 37 = .ok (.getfield 13, 3) := by decide +kernel
theorem dX0_sum_40 : decode cX0_sum 40 = .ok (.if_icmp .ge 43, 3) := by decide +kernel
theorem dX0_sum_43 : decode cX0_sum 43 = .ok (.iconst 1, 1) := by decide +kernel
theorem dX0_sum_44 : decode cX0_sum 44 = .ok (.iload 5, 2) := by decide +kernel
theorem dX0_sum_46 : decode cX0_sum 46 = .ok (.iadd, 1) := by decide +kernel
theorem dX0_sum_47 : decode cX0_sum 47 = .ok (.bipush 8, 2) := by decide +kernel
theorem dX0_sum_49 : decode cX0_sum 49 = .ok (.iload 4, 2) := by decide +kernel
theorem dX0_sum_51 : decode cX0_sum 51 = .ok (.imul, 1) := by decide +kernel
theorem dX0_sum_52 : decode cX0_sum 52 = .ok (.iadd, 1) := by decide +kernel
theorem dX0_sum_53 : decode cX0_sum 53 = .ok (.i2l, 1) := by decide +kernel
theorem dX0_sum_54 : decode cX0_sum 54 = .ok (.lstore 6, 2) := by decide +kernel
theorem dX0_sum_56 : decode cX0_sum 56 = .ok (.lload_n 2, 1) := by decide +kernel
theorem dX0_sum_57 : decode cX0_sum 57 = .ok (.lload 6, 2) := by decide +kernel
theorem dX0_sum_59 : decode cX0_sum 59 = .ok (.aload_n 0, 1) := by decide +kernel
theorem dX0_sum_60 : decode cX0_sum 60 = .ok (.getfield 26, 3) := by decide +kernel
theorem dX0_sum_63 : decode cX0_sum 63 = .ok (.iload 5, 2) := by decide +kernel
theorem dX0_sum_65 : decode cX0_sum 65 = .ok (.iload 4, 2) := by decide +kernel
theorem dX0_sum_67 : decode cX0_sum 67 = .ok (.invokestatic 53, 3) := by decide +kernel
theorem dX0_sum_70 : decode cX0_sum 70 = .ok (.iload_n 1, 1) := by decide +kernel
theorem dX0_sum_71 : decode cX0_sum 71 = .ok (.iadd, 1) := by decide +kernel
theorem dX0_sum_72 : decode cX0_sum 72 = .ok (.iaload, 1) := by decide +kernel
theorem dX0_sum_73 : decode cX0_sum 73 = .ok (.i2l, 1) := by decide +kernel
theorem dX0_sum_74 : decode cX0_sum 74 = .ok (.lmul, 1) := by decide +kernel
theorem dX0_sum_75 : decode cX0_sum 75 = .ok (.ladd, 1) := by decide +kernel
theorem dX0_sum_76 : decode cX0_sum 76 = .ok (.lstore_n 2, 1) := by decide +kernel
theorem dX0_sum_77 : decode cX0_sum 77 = .ok (.iinc 5 1, 3) := by decide +kernel
theorem dX0_sum_80 : decode cX0_sum 80 = .ok (.goto (-46), 3) := by decide +kernel
theorem dX0_sum_83 : decode cX0_sum 83 = .ok (.iinc 4 1, 3) := by decide +kernel
theorem dX0_sum_86 : decode cX0_sum 86 = .ok (.goto (-64), 3) := by decide +kernel
theorem dX0_sum_89 : decode cX0_sum 89 = .ok (.lload_n 2, 1) := by decide +kernel
theorem dX0_sum_90 : decode cX0_sum 90 = .ok (.lreturn, 1) := by decide +kernel
theorem dL_sum_0 : decode cL_sum 0 = .ok (.aload_n 2, 1) := by decide +kernel
theorem dL_sum_1 : decode cL_sum 1 = .ok (.iconst 0, 1) := by decide +kernel
theorem dL_sum_2 : decode cL_sum 2 = .ok (.aload_n 0, 1) := by decide +kernel
theorem dL_sum_3 : decode cL_sum 3 = .ok (.iload_n 1, 1) := by decide +kernel
theorem dL_sum_4 : decode cL_sum 4 = .ok (.invokevirtual 17, 3) := by decide +kernel
theorem dL_sum_7 : decode cL_sum 7 = .ok (.lastore, 1) := by decide +kernel
theorem dL_sum_8 : decode cL_sum 8 = .ok (.goto 6, 3) := by decide +kernel
theorem dL_sum_11 : decode cL_sum 11 = .ok (.astore_n 3, 1) := by decide +kernel
theorem dL_sum_12 : decode cL_sum 12 = .ok (.iconst 1, 1) := by decide +kernel
theorem dL_sum_13 : decode cL_sum 13 = .ok (.ireturn, 1) := by decide +kernel
theorem dL_sum_14 : decode cL_sum 14 = .ok (.iconst 0, 1) := by decide +kernel
theorem dL_sum_15 : decode cL_sum 15 = .ok (.ireturn, 1) := by decide +kernel
end
section
/-! MY OWN ROWS over the kit's: numbers as Nats on the stack and at arrays' places -/
section CFR
variable {p : Program} {l : Launch} {e : Env} {R : Room} {s : State} {m : MethodId} {args : Array Value} {below : List Frame} {meth : Method} {c : Code} {H : Heap} {locs : List Loc} {cells slots : Nat} {Q : State → Prop}
variable {cc : ByteArray} {pc : Nat} {ls : Array Slot} {rest : List Value} {D : va_G} {cl : List vw_C} {A : Nat → Prop} {a : Nat} {tys : List (ClassId × FieldType)} {ws : va_W} {H0 : Heap}
theorem cf_top {x y : Int32} (h : x = y) (k : W p l e R s m args below meth c H locs cells slots Q (F0 m pc ls (.int y :: rest))) : W p l e R s m args below meth c H locs cells slots Q (F0 m pc ls (.int x :: rest)) := by
  rw [h]; exact k
theorem cf_topl {x y : Int64} (h : x = y) (k : W p l e R s m args below meth c H locs cells slots Q (F0 m pc ls (.long y :: rest))) : W p l e R s m args below meth c H locs cells slots Q (F0 m pc ls (.long x :: rest)) := by
  rw [h]; exact k
theorem cf_iald (hexec : p.tables.exec = Jvm.exec) (hb : c.code = cc) (hK : va_K D cl tys s) (hP : va_P D cl ws H) (q0 t0 : Nat) {cA : ClassId} {n : Nat} {f : Nat → Int32} (ha : ws[q0]? = some (a, .inl (cA, n, .inl f))) (ht : tys[t0]? = some (cA, .int)) {k : Nat} (hk : k < n) (hn : n < 2 ^ 31) (hdg : decode cc pc = .ok (.iaload, 1))
    (kk : W p l e R s m args below meth c H locs cells slots Q (F0 m (pc + 1) ls (.int (f k) :: rest))) : W p l e R s m args below meth c H locs cells slots Q (F0 m pc ls (.int (nI k) :: .ref a :: rest)) := by
  refine va_iald hexec hb hK hP q0 t0 ha ht (vp_in_nI hk hn) hdg ?_
  rw [nI_clamp (Nat.lt_trans hk hn)]
  exact kk
theorem cf_iast (hexec : p.tables.exec = Jvm.exec) (hb : c.code = cc) (hK : va_K D cl tys s) (hP : va_P D cl ws H) (hD : va_D A ws) (hS : va_S A H0 H locs) (q0 t0 : Nat) {cA : ClassId} {n : Nat} {f : Nat → Int32} (ha : ws[q0]? = some (a, .inl (cA, n, .inl f))) (ht : tys[t0]? = some (cA, .int)) {k : Nat} {x : Int32} (hk : k < n) (hn : n < 2 ^ 31) (hdg : decode cc pc = .ok (.iastore, 1))
    (kk : ∀ (H1 : Heap) (locs1 : List Loc), va_P D cl (ws.set q0 (a, .inl (cA, n, .inl (upd f k x)))) H1 → va_D A (ws.set q0 (a, .inl (cA, n, .inl (upd f k x)))) → va_S A H0 H1 locs1 → W p l e R s m args below meth c H1 locs1 cells slots Q (F0 m (pc + 1) ls rest)) : W p l e R s m args below meth c H locs cells slots Q (F0 m pc ls (.int x :: .int (nI k) :: .ref a :: rest)) := by
  refine va_iast hexec hb hK hP hD hS q0 t0 ha ht (vp_in_nI hk hn) hdg (fun H1 locs1 h1 h2 h3 => ?_)
  rw [nI_clamp (Nat.lt_trans hk hn)] at h1 h2
  exact kk H1 locs1 h1 h2 h3
theorem cf_copyi (hexec : p.tables.exec = Jvm.exec) (hb : c.code = cc) (hml : c.maxLocals = ls.size) {own : String} {index : Nat} (hown : s.vm.findClass own = some m.cls) (hlink : (Cond.methodLink own index arraycopyName).before args s = true) (hnat : (Cond.native arraycopyName).before args s = true) (hstat : (Cond.static arraycopyName).before args s = true) (hini : (Cond.initialized "java/lang/System").before args s = true)
    (hK : va_K D cl tys s) (hP : va_P D cl ws H) (hD : va_D A ws) (hS : va_S A H0 H locs) (q0 q1 t0 t1 : Nat) {a0 : Nat} {c0 c1 : ClassId} {n0 n1 : Nat} {f g : Nat → Int32} (ha0 : ws[q0]? = some (a0, .inl (c0, n0, .inl f))) (ha1 : ws[q1]? = some (a, .inl (c1, n1, .inl g))) (ht0 : tys[t0]? = some (c0, .int)) (ht1 : tys[t1]? = some (c1, .int))
    {sp dp n : Nat} (h4 : sp + n ≤ n0) (h5 : dp + n ≤ n1) (h6 : n0 < 2 ^ 31) (h7 : n1 < 2 ^ 31)
    (hframes : 1 ≤ R.frames) (hlocals : (rest.map fun v => v.category).sum + (nativeFrameWords "java/lang/System" "arraycopy" 5 + 11) ≤ R.locals) (hdg : decode cc pc = .ok (.invokestatic index, 3))
    (kk : ∀ (H1 : Heap) (locs1 : List Loc), va_P D cl (ws.set q1 (a, .inl (c1, n1, .inl (va_cpy f g sp dp n)))) H1 → va_D A (ws.set q1 (a, .inl (c1, n1, .inl (va_cpy f g sp dp n)))) → va_S A H0 H1 locs1 → W p l e R s m args below meth c H1 locs1 cells slots Q (F0 m (pc + 3) ls rest)) : W p l e R s m args below meth c H locs cells slots Q (F0 m pc ls (.int (nI n) :: .int (nI dp) :: .ref a :: .int (nI sp) :: .ref a0 :: rest)) := by
  have e1 : (nI sp).toNatClampNeg = sp := nI_clamp (by omega)
  have e2 : (nI dp).toNatClampNeg = dp := nI_clamp (by omega)
  have e3 : (nI n).toNatClampNeg = n := nI_clamp (by omega)
  refine va_copyi hexec hb hml hown hlink hnat hstat hini hK hP hD hS q0 q1 t0 t1 ha0 ha1 ht0 ht1 rfl (nI_pos (by omega)) (nI_pos (by omega)) (nI_pos (by omega)) (by rw [e1, e3]; exact h4) (by rw [e2, e3]; exact h5) (fun i _ => rfl) hframes hlocals hdg (fun H1 locs1 g1 g2 g3 => ?_)
  rw [e1, e2, e3] at g1 g2
  exact kk H1 locs1 g1 g2 g3
end CFR
end
section
/-! PURE ROWS: the plane as a mathematical value. cell (x, y) of blocks, place q: index 64 * (8 * y + x) + q -/
abbrev cf_G : Type := Nat → Nat → Nat → Int32
def cf_V (f : Nat → Int32) : cf_G := fun x y q => f (64 * (8 * y + x) + q)
/-- the two planes agree on w by h blocks -/
def cf_Ag (w h : Nat) (G G' : cf_G) : Prop := ∀ x y q, x < w → y < h → q < 64 → G x y q = G' x y q
theorem cf_Ag.rf {w h : Nat} {G : cf_G} : cf_Ag w h G G := fun _ _ _ _ _ _ => rfl
theorem cf_Ag.tr {w h : Nat} {G G' G'' : cf_G} (a : cf_Ag w h G G') (b : cf_Ag w h G' G'') : cf_Ag w h G G'' := fun x y q h1 h2 h3 => (a x y q h1 h2 h3).trans (b x y q h1 h2 h3)
theorem cf_Ag.sy {w h : Nat} {G G' : cf_G} (a : cf_Ag w h G G') : cf_Ag w h G' G := fun x y q h1 h2 h3 => (a x y q h1 h2 h3).symm
def cf_tr (G : cf_G) : cf_G := fun x y q => G y x (8 * (q % 8) + q / 8)
def cf_mi (w : Nat) (G : cf_G) : cf_G := fun x y q => if q % 2 = 1 then -(G (w - 1 - x) y q) else G (w - 1 - x) y q
def cf_fl (h : Nat) (G : cf_G) : cf_G := fun x y q => if q / 8 % 2 = 1 then -(G x (h - 1 - y) q) else G x (h - 1 - y) q
def cf_cr (X Y : Nat) (G : cf_G) : cf_G := fun x y q => G (X + x) (Y + y) q
def cf_sx (a b c d : Nat) (G : cf_G) : cf_G := fun x y q => if x = a ∧ y = b then G c d q else if x = c ∧ y = d then G a b q else G x y q
theorem cf_tr_ag {w h : Nat} {G G' : cf_G} (a : cf_Ag w h G G') : cf_Ag h w (cf_tr G) (cf_tr G') := fun x y q h1 h2 h3 => a y x _ h2 h1 (by omega)
theorem cf_mi_ag {w h : Nat} {G G' : cf_G} (a : cf_Ag w h G G') : cf_Ag w h (cf_mi w G) (cf_mi w G') := fun x y q h1 h2 h3 => by
  unfold cf_mi
  rw [a (w - 1 - x) y q (by omega) h2 h3]
theorem cf_fl_ag {w h : Nat} {G G' : cf_G} (a : cf_Ag w h G G') : cf_Ag w h (cf_fl h G) (cf_fl h G') := fun x y q h1 h2 h3 => by
  unfold cf_fl
  rw [a x (h - 1 - y) q h1 (by omega) h3]
theorem cf_cr_ag {w h X Y w' h' : Nat} {G G' : cf_G} (a : cf_Ag w h G G') (hx : X + w' ≤ w) (hy : Y + h' ≤ h) : cf_Ag w' h' (cf_cr X Y G) (cf_cr X Y G') := fun x y q h1 h2 h3 => a (X + x) (Y + y) q (by omega) (by omega) h3
theorem cf_sx_ag {w h a b c d : Nat} {G G' : cf_G} (g : cf_Ag w h G G') (h1 : a < w) (h2 : b < h) (h3 : c < w) (h4 : d < h) : cf_Ag w h (cf_sx a b c d G) (cf_sx a b c d G') := fun x y q g1 g2 g3 => by
  unfold cf_sx
  rw [g c d q h3 h4 g3, g a b q h1 h2 g3, g x y q g1 g2 g3]
/-- so many quarter turns; the width and the height change places at each -/
def cf_tu : Nat → Nat → Nat → cf_G → cf_G
  | 0, _, _, G => G
  | n + 1, w, h, G => cf_tu n h w (cf_mi h (cf_tr G))
theorem cf_tu_ag : ∀ (n w h : Nat) {G G' : cf_G}, cf_Ag w h G G' → cf_Ag (if n % 2 = 1 then h else w) (if n % 2 = 1 then w else h) (cf_tu n w h G) (cf_tu n w h G')
  | 0, w, h, G, G', a => by simpa [cf_tu] using a
  | n + 1, w, h, G, G', a => by
    have b := cf_tu_ag n h w (cf_mi_ag (cf_tr_ag a))
    rcases Nat.mod_two_eq_zero_or_one n with e | e
    · rw [if_neg (by omega), if_neg (by omega)] at b
      rw [if_pos (by omega), if_pos (by omega)]
      exact b
    · rw [if_pos e, if_pos e] at b
      rw [if_neg (by omega), if_neg (by omega)]
      exact b
theorem cf_q8 {q : Nat} (h : q < 64) : 8 * (q % 8) + q / 8 < 64 := by omega
theorem cf_qT {q : Nat} (h : q < 64) : 8 * ((8 * (q % 8) + q / 8) % 8) + (8 * (q % 8) + q / 8) / 8 = q := by omega
theorem cf_nn (v : Int32) : - -v = v := by
  apply Int32.toBitVec_inj.mp
  simp
theorem cf_tu2 {w h : Nat} (G : cf_G) : cf_Ag w h (cf_fl h (cf_mi w G)) (cf_tu 2 w h G) := fun x y q h1 h2 h3 => by
  have e1 : (8 * (q % 8) + q / 8) % 2 = q / 8 % 2 := by omega
  have e2 : h - 1 - y = h - 1 - y := rfl
  simp only [cf_tu, cf_fl, cf_mi, cf_tr, e1, cf_qT h3]
  by_cases a : q % 2 = 1
  · by_cases b : q / 8 % 2 = 1
    · simp [a, b]
    · simp [a, b]
  · by_cases b : q / 8 % 2 = 1
    · simp [a, b]
    · simp [a, b]
theorem cf_tu3 {w h : Nat} (G : cf_G) : cf_Ag h w (cf_fl w (cf_tr G)) (cf_tu 3 w h G) := fun x y q h1 h2 h3 => by
  have e1 : (8 * (q % 8) + q / 8) % 2 = q / 8 % 2 := by omega
  have e0 : (8 * (q % 8) + q / 8) / 8 = q % 8 := by omega
  have e2 : (8 * (q % 8) + q / 8) / 8 % 2 = q % 2 := by rw [e0]; omega
  have e3 : h - 1 - (h - 1 - x) = x := by omega
  have e4 : 8 * ((8 * (q % 8) + q / 8) % 8) + (8 * (q % 8) + q / 8) / 8 = q := cf_qT h3
  simp only [cf_tu, cf_fl, cf_mi, cf_tr, e1, e3, e4]
  by_cases a : q % 2 = 1
  · by_cases b : q / 8 % 2 = 1
    · simp [a, b, e1, e2, e4, cf_nn]
    · simp [a, b, e1, e2, e4, cf_nn]
  · by_cases b : q / 8 % 2 = 1
    · simp [a, b, e1, e2, e4, cf_nn]
    · simp [a, b, e1, e2, e4, cf_nn]
/-! two blocks change places: block i and block j -/
def cf_sw (i j t : Nat) : Nat := if t = i then j else if t = j then i else t
def cf_xb (f fc : Nat → Int32) (i j p : Nat) : Prop := ∀ t q, q < 64 → fc (64 * t + q) = if q < p then f (64 * cf_sw i j t + q) else f (64 * t + q)
theorem cf_xb_0 {f : Nat → Int32} {i j : Nat} : cf_xb f f i j 0 := fun t q _ => by rw [if_neg (by omega)]
theorem cf_xb_s {f fc : Nat → Int32} {i j p : Nat} (h : cf_xb f fc i j p) (hp : p < 64) : cf_xb f (upd (upd fc (64 * i + p) (fc (64 * j + p))) (64 * j + p) (fc (64 * i + p))) i j (p + 1) := by
  intro t q hq
  have hi := h i p hp
  have hj := h j p hp
  have ht := h t q hq
  rw [if_neg (by omega)] at hi hj
  unfold upd
  rw [hi, hj]
  by_cases e1 : 64 * t + q = 64 * j + p
  · obtain ⟨rfl, rfl⟩ : t = j ∧ q = p := by omega
    rw [if_pos rfl, if_pos (by omega)]
    unfold cf_sw
    by_cases e3 : t = i
    · subst e3
      rw [if_pos rfl]
    · rw [if_neg e3, if_pos rfl]
  · rw [if_neg e1]
    by_cases e2 : 64 * t + q = 64 * i + p
    · obtain ⟨rfl, rfl⟩ : t = i ∧ q = p := by omega
      rw [if_pos rfl, if_pos (by omega)]
      unfold cf_sw
      rw [if_pos rfl]
    · rw [if_neg e2, ht]
      by_cases e3 : q < p
      · rw [if_pos e3, if_pos (by omega)]
      · rw [if_neg e3]
        by_cases e4 : q = p
        · rw [if_pos (by omega)]
          unfold cf_sw
          rw [if_neg (by omega), if_neg (by omega)]
        · rw [if_neg (by omega)]
def cf_xB (f f2 : Nat → Int32) (i j : Nat) : Prop := ∀ t q, q < 64 → f2 (64 * t + q) = f (64 * cf_sw i j t + q)
theorem cf_xb_e {f fc : Nat → Int32} {i j : Nat} (h : cf_xb f fc i j 64) : cf_xB f fc i j := fun t q hq => by rw [h t q hq, if_pos hq]
theorem cf_xB_sx {f f2 : Nat → Int32} {w h a b c d : Nat} (H : cf_xB f f2 (8 * b + a) (8 * d + c)) (hw : w ≤ 8) (h1 : a < w) (h3 : c < w) : cf_Ag w h (cf_V f2) (cf_sx a b c d (cf_V f)) := fun x y q g1 g2 g3 => by
  have e := H (8 * y + x) q g3
  unfold cf_V cf_sx
  rw [e]
  unfold cf_sw
  by_cases e1 : x = a ∧ y = b
  · rw [if_pos (by omega), if_pos e1]
  · rw [if_neg (by omega), if_neg e1]
    by_cases e2 : x = c ∧ y = d
    · rw [if_pos (by omega), if_pos e2]
    · rw [if_neg (by omega), if_neg e2]
/-! the class's mirror: rows of blocks exchanged in place -/
def cf_mx (w y0 x0 : Nat) (f fc : Nat → Int32) : Prop := ∀ x y q, x < w → q < 64 → fc (64 * (8 * y + x) + q) = if y < y0 ∨ (y = y0 ∧ (x < x0 ∨ w - 1 - x < x0)) then f (64 * (8 * y + (w - 1 - x)) + q) else f (64 * (8 * y + x) + q)
theorem cf_mx_0 {w : Nat} {f : Nat → Int32} : cf_mx w 0 0 f f := fun x y q _ _ => by rw [if_neg (by omega)]
theorem cf_mx_s {w y0 x0 : Nat} {f fc f2 : Nat → Int32} (h : cf_mx w y0 x0 f fc) (hw : w ≤ 8) (hx : x0 < w / 2) (H : cf_xB fc f2 (8 * y0 + x0) (8 * y0 + (w - 1 - x0))) : cf_mx w y0 (x0 + 1) f f2 := by
  intro x y q g1 g2
  rw [H (8 * y + x) q g2]
  unfold cf_sw
  by_cases e1 : x = x0 ∧ y = y0
  · obtain ⟨rfl, rfl⟩ := e1
    rw [if_pos rfl, if_pos (by omega), h (w - 1 - x) y q (by omega) g2, if_neg (by omega)]
  · rw [if_neg (by omega)]
    by_cases e2 : x = w - 1 - x0 ∧ y = y0
    · obtain ⟨rfl, rfl⟩ := e2
      rw [if_pos rfl, if_pos (by omega), h x0 y q (by omega) g2, if_neg (by omega)]
      congr 3
      omega
    · rw [if_neg (by omega), h x y q g1 g2]
      by_cases e3 : y < y0 ∨ (y = y0 ∧ (x < x0 ∨ w - 1 - x < x0))
      · rw [if_pos e3, if_pos (by omega)]
      · rw [if_neg e3, if_neg (by omega)]
theorem cf_mx_r {w y0 x0 : Nat} {f fc : Nat → Int32} (h : cf_mx w y0 x0 f fc) (hx : x0 = w / 2) : cf_mx w (y0 + 1) 0 f fc := by
  intro x y q g1 g2
  rw [h x y q g1 g2]
  by_cases e3 : y < y0 ∨ (y = y0 ∧ (x < x0 ∨ w - 1 - x < x0))
  · rw [if_pos e3, if_pos (by omega)]
  · rw [if_neg e3]
    by_cases e4 : y = y0
    · rw [if_pos (by omega)]
      congr 3
      omega
    · rw [if_neg (by omega)]
/-! the class's flip: columns of blocks exchanged in place -/
def cf_fx (w h y0 x0 : Nat) (f fc : Nat → Int32) : Prop := ∀ x y q, x < w → y < h → q < 64 → fc (64 * (8 * y + x) + q) = if (y < y0 ∨ h - 1 - y < y0) ∨ ((y = y0 ∨ h - 1 - y = y0) ∧ x < x0) then f (64 * (8 * (h - 1 - y) + x) + q) else f (64 * (8 * y + x) + q)
theorem cf_fx_0 {w h : Nat} {f : Nat → Int32} : cf_fx w h 0 0 f f := fun x y q _ _ _ => by rw [if_neg (by omega)]
theorem cf_fx_s {w h y0 x0 : Nat} {f fc f2 : Nat → Int32} (hh : cf_fx w h y0 x0 f fc) (hw : w ≤ 8) (hx : x0 < w) (hy : y0 < h / 2) (H : cf_xB fc f2 (8 * y0 + x0) (8 * (h - 1 - y0) + x0)) : cf_fx w h y0 (x0 + 1) f f2 := by
  intro x y q g1 g0 g2
  rw [H (8 * y + x) q g2]
  unfold cf_sw
  by_cases e1 : x = x0 ∧ y = y0
  · obtain ⟨rfl, rfl⟩ := e1
    rw [if_pos rfl, if_pos (by omega), hh x (h - 1 - y) q g1 (by omega) g2, if_neg (by omega)]
  · rw [if_neg (by omega)]
    by_cases e2 : x = x0 ∧ y = h - 1 - y0
    · obtain ⟨rfl, rfl⟩ := e2
      rw [if_pos rfl, if_pos (by omega), hh x y0 q (by omega) (by omega) g2, if_neg (by omega)]
      congr 3
      omega
    · rw [if_neg (by omega), hh x y q g1 g0 g2]
      by_cases e3 : (y < y0 ∨ h - 1 - y < y0) ∨ ((y = y0 ∨ h - 1 - y = y0) ∧ x < x0)
      · rw [if_pos e3, if_pos (by omega)]
      · rw [if_neg e3, if_neg (by omega)]
theorem cf_fx_r {w h y0 x0 : Nat} {f fc : Nat → Int32} (hh : cf_fx w h y0 x0 f fc) (hx : x0 = w) : cf_fx w h (y0 + 1) 0 f fc := by
  intro x y q g1 g0 g2
  rw [hh x y q g1 g0 g2]
  by_cases e3 : (y < y0 ∨ h - 1 - y < y0) ∨ ((y = y0 ∨ h - 1 - y = y0) ∧ x < x0)
  · rw [if_pos e3, if_pos (by omega)]
  · rw [if_neg e3, if_neg (by omega)]
/-! signs: rows y0, in row y0 the first j -/
def cf_ng (b w y0 j : Nat) (f fc : Nat → Int32) : Prop := ∀ x y q, x < w → q < 64 → fc (64 * (8 * y + x) + q) = if (y < y0 ∨ (y = y0 ∧ 64 * x + q < j)) ∧ q / b % 2 = 1 then -(f (64 * (8 * y + x) + q)) else f (64 * (8 * y + x) + q)
theorem cf_ng_0 {b w : Nat} {f : Nat → Int32} : cf_ng b w 0 0 f f := fun x y q _ _ => by rw [if_neg (by omega)]
theorem cf_ng_r {b w y0 j : Nat} {f fc : Nat → Int32} (h : cf_ng b w y0 j f fc) (hj : j = 64 * w) : cf_ng b w (y0 + 1) 0 f fc := by
  intro x y q g1 g2
  rw [h x y q g1 g2]
  by_cases e : (y < y0 ∨ (y = y0 ∧ 64 * x + q < j)) ∧ q / b % 2 = 1
  · rw [if_pos e, if_pos ⟨by omega, e.2⟩]
  · rw [if_neg e]
    by_cases o : q / b % 2 = 1
    · rw [if_neg (fun a => e ⟨by omega, o⟩)]
    · rw [if_neg (fun a => o a.2)]
theorem cf_ng_n {b w y0 j : Nat} {f fc : Nat → Int32} (h : cf_ng b w y0 j f fc) (hb : b = 1 ∨ b = 8) (hw : w ≤ 8) (hj : j < 64 * w) (ho : (512 * y0 + j) / b % 2 = 1) : cf_ng b w y0 (j + 1) f (upd fc (512 * y0 + j) (-(fc (512 * y0 + j)))) := by
  intro x y q g1 g2
  unfold upd
  by_cases e : 64 * (8 * y + x) + q = 512 * y0 + j
  · have e1 : y = y0 := by omega
    have e2 : j = 64 * x + q := by omega
    subst e1; subst e2
    have e3 : 512 * y + (64 * x + q) = 64 * (8 * y + x) + q := by omega
    rw [if_pos e, e3, h x y q g1 g2, if_neg (by omega), if_pos ⟨by omega, by rcases hb with rfl | rfl <;> omega⟩]
  · rw [if_neg e, h x y q g1 g2]
    by_cases o : q / b % 2 = 1
    · by_cases e4 : y < y0 ∨ (y = y0 ∧ 64 * x + q < j)
      · rw [if_pos ⟨e4, o⟩, if_pos ⟨by omega, o⟩]
      · rw [if_neg (fun a => e4 a.1), if_neg (fun a => e4 (by have := a.1; omega))]
    · rw [if_neg (fun a => o a.2), if_neg (fun a => o a.2)]
theorem cf_ng_k {b w y0 j : Nat} {f fc : Nat → Int32} (h : cf_ng b w y0 j f fc) (hb : b = 1 ∨ b = 8) (hw : w ≤ 8) (hj : j < 64 * w) (ho : ¬ (512 * y0 + j) / b % 2 = 1) : cf_ng b w y0 (j + 1) f fc := by
  intro x y q g1 g2
  rw [h x y q g1 g2]
  by_cases o : q / b % 2 = 1
  · by_cases e4 : y < y0 ∨ (y = y0 ∧ 64 * x + q < j)
    · rw [if_pos ⟨e4, o⟩, if_pos ⟨by omega, o⟩]
    · rw [if_neg (fun a => e4 a.1), if_neg (fun a => e4 (by
        have := a.1
        rcases hb with rfl | rfl <;> omega))]
  · rw [if_neg (fun a => o a.2), if_neg (fun a => o a.2)]
def cf_nG (b : Nat) (G : cf_G) : cf_G := fun x y q => if q / b % 2 = 1 then -(G x y q) else G x y q
theorem cf_ng_e {b w h : Nat} {f fc : Nat → Int32} (hh : cf_ng b w h 0 f fc) : cf_Ag w h (cf_V fc) (cf_nG b (cf_V f)) := fun x y q g1 g2 g3 => by
  unfold cf_V cf_nG
  rw [hh x y q g1 g3]
  by_cases o : q / b % 2 = 1
  · rw [if_pos ⟨by omega, o⟩, if_pos o]
  · rw [if_neg (fun a => o a.2), if_neg o]
theorem cf_bit : ∀ (b : Nat), b = 1 ∨ b = 8 → ∀ i, i < 4096 → (¬ (nI i &&& nI b) = 0 ↔ i / b % 2 = 1) := by
  intro b hb i hi
  have e : nI i &&& nI b = nI (i &&& b) := by
    apply Int32.toBitVec_inj.mp
    show BitVec.ofNat 32 i &&& BitVec.ofNat 32 b = BitVec.ofNat 32 (i &&& b)
    apply BitVec.eq_of_toNat_eq
    simp [Nat.and_mod_two_pow]
  rw [e]
  have e2 : i &&& b = if i / b % 2 = 1 then b else 0 := by
    rcases hb with rfl | rfl
    · rw [Nat.and_one_is_mod, Nat.div_one]
      rcases Nat.mod_two_eq_zero_or_one i with h | h <;> simp [h]
    · apply Nat.eq_of_testBit_eq
      intro k
      have h8 : (8 : Nat) = 2 ^ 3 := rfl
      rw [Nat.testBit_and, h8, Nat.testBit_two_pow]
      by_cases hk : 3 = k
      · subst hk
        have : i.testBit 3 = decide (i / 2 ^ 3 % 2 = 1) := Nat.testBit_eq_decide_div_mod_eq
        rw [this]
        by_cases o : i / 2 ^ 3 % 2 = 1
        · rw [if_pos o]; simp [o]; decide
        · rw [if_neg o]; simp [o]
      · by_cases o : i / 2 ^ 3 % 2 = 1
        · rw [if_pos o]; simp [hk]; show Nat.testBit (2 ^ 3) k = false; rw [Nat.testBit_two_pow]; simp [hk]
        · rw [if_neg o]; simp [hk]
  rw [e2]
  by_cases o : i / b % 2 = 1
  · rw [if_pos o]
    exact ⟨fun _ => o, fun _ => nI_ne0 (by omega) (by omega)⟩
  · rw [if_neg o]
    exact ⟨fun a => absurd nI_0 a, fun a => absurd a o⟩
end
section
/-! a triangle of exchanges: after rows v0 and u0 of row v0 the pair (a, b) has been exchanged -/
def cf_td (v0 u0 a b : Nat) : Prop := (a < v0 ∧ b < v0) ∨ (a = v0 ∧ b < u0) ∨ (b = v0 ∧ a < u0)
theorem cf_td_dec (v0 u0 a b : Nat) : cf_td v0 u0 a b ∨ ¬ cf_td v0 u0 a b := Classical.em _
/-- within one block i: coefficient (v, u) and (u, v) -/
def cf_tb (i v0 u0 : Nat) (f fc : Nat → Int32) : Prop := ∀ t v u, v < 8 → u < 8 → (t = i ∧ cf_td v0 u0 v u → fc (64 * t + (8 * v + u)) = f (64 * t + (8 * u + v))) ∧ (¬ (t = i ∧ cf_td v0 u0 v u) → fc (64 * t + (8 * v + u)) = f (64 * t + (8 * v + u)))
theorem cf_tb_0 {i : Nat} {f : Nat → Int32} : cf_tb i 1 0 f f := fun t v u h1 h2 => ⟨fun h => by
  have e : v = u := by have := h.2; unfold cf_td at this; omega
  rw [e], fun _ => rfl⟩
theorem cf_tb_s {i v0 u0 : Nat} {f fc : Nat → Int32} (h : cf_tb i v0 u0 f fc) (hv : v0 < 8) (hu : u0 < v0) : cf_tb i v0 (u0 + 1) f (upd (upd fc (64 * i + (8 * v0 + u0)) (fc (64 * i + (8 * u0 + v0)))) (64 * i + (8 * u0 + v0)) (fc (64 * i + (8 * v0 + u0)))) := by
  intro t v u h1 h2
  have ha := (h i v0 u0 hv (by omega)).2 (fun a => by have := a.2; unfold cf_td at this; omega)
  have hb := (h i u0 v0 (by omega) hv).2 (fun a => by have := a.2; unfold cf_td at this; omega)
  have ht := h t v u h1 h2
  unfold upd
  rw [ha, hb]
  by_cases e1 : t = i ∧ v = u0 ∧ u = v0
  · obtain ⟨rfl, rfl, rfl⟩ := e1
    rw [if_pos rfl]
    exact ⟨fun _ => rfl, fun a => absurd ⟨rfl, Or.inr (Or.inr ⟨rfl, by omega⟩)⟩ a⟩
  · rw [if_neg (by omega)]
    by_cases e2 : t = i ∧ v = v0 ∧ u = u0
    · obtain ⟨rfl, rfl, rfl⟩ := e2
      rw [if_pos rfl]
      exact ⟨fun _ => rfl, fun a => absurd ⟨rfl, Or.inr (Or.inl ⟨rfl, by omega⟩)⟩ a⟩
    · rw [if_neg (by omega)]
      refine ⟨fun a => ht.1 ⟨a.1, ?_⟩, fun a => ht.2 (fun b => a ⟨b.1, ?_⟩)⟩
      · have := a.2
        have := a.1
        unfold cf_td at *
        omega
      · have := b.2
        unfold cf_td at *
        omega
theorem cf_tb_r {i v0 u0 : Nat} {f fc : Nat → Int32} (h : cf_tb i v0 u0 f fc) (hu : u0 = v0) : cf_tb i (v0 + 1) 0 f fc := by
  intro t v u h1 h2
  have ht := h t v u h1 h2
  by_cases e : v = u
  · subst e
    exact ⟨fun a => (Classical.em (t = i ∧ cf_td v0 u0 v v)).elim ht.1 ht.2, fun a => (Classical.em (t = i ∧ cf_td v0 u0 v v)).elim ht.1 ht.2⟩
  · refine ⟨fun a => ht.1 ⟨a.1, ?_⟩, fun a => ht.2 (fun b => a ⟨b.1, ?_⟩)⟩
    · have := a.2
      unfold cf_td at *
      omega
    · have := b.2
      unfold cf_td at *
      omega
def cf_tB (i : Nat) (f f2 : Nat → Int32) : Prop := (∀ q, q < 64 → f2 (64 * i + q) = f (64 * i + (8 * (q % 8) + q / 8))) ∧ ∀ t q, q < 64 → t ≠ i → f2 (64 * t + q) = f (64 * t + q)
theorem cf_tb_e {i : Nat} {f fc : Nat → Int32} (h : cf_tb i 8 0 f fc) : cf_tB i f fc := by
  refine ⟨fun q hq => ?_, fun t q hq ht => ?_⟩
  · have e := (h i (q / 8) (q % 8) (by omega) (by omega)).1 ⟨rfl, Or.inl ⟨by omega, by omega⟩⟩
    have e1 : 8 * (q / 8) + q % 8 = q := by omega
    rw [e1] at e
    exact e
  · have e := (h t (q / 8) (q % 8) (by omega) (by omega)).2 (fun a => ht a.1)
    have e1 : 8 * (q / 8) + q % 8 = q := by omega
    rw [e1] at e
    exact e
/-- whole blocks across the diagonal -/
def cf_xd (v0 u0 : Nat) (f fc : Nat → Int32) : Prop := ∀ y x q, y < 8 → x < 8 → q < 64 → (cf_td v0 u0 y x → fc (64 * (8 * y + x) + q) = f (64 * (8 * x + y) + q)) ∧ (¬ cf_td v0 u0 y x → fc (64 * (8 * y + x) + q) = f (64 * (8 * y + x) + q))
theorem cf_xd_0 {f : Nat → Int32} : cf_xd 1 0 f f := fun y x q h1 h2 _ => ⟨fun h => by
  have e : y = x := by unfold cf_td at h; omega
  rw [e], fun _ => rfl⟩
theorem cf_xd_s {v0 u0 : Nat} {f fc f2 : Nat → Int32} (h : cf_xd v0 u0 f fc) (hv : v0 < 8) (hu : u0 < v0) (H : cf_xB fc f2 (8 * v0 + u0) (8 * u0 + v0)) : cf_xd v0 (u0 + 1) f f2 := by
  intro y x q h1 h2 hq
  have ha := (h v0 u0 q hv (by omega) hq).2 (fun a => by unfold cf_td at a; omega)
  have hb := (h u0 v0 q (by omega) hv hq).2 (fun a => by unfold cf_td at a; omega)
  have ht := h y x q h1 h2 hq
  rw [H (8 * y + x) q hq]
  unfold cf_sw
  by_cases e2 : y = v0 ∧ x = u0
  · obtain ⟨rfl, rfl⟩ := e2
    rw [if_pos rfl, hb]
    exact ⟨fun _ => rfl, fun a => absurd (Or.inr (Or.inl ⟨rfl, by omega⟩)) a⟩
  · rw [if_neg (by omega)]
    by_cases e1 : y = u0 ∧ x = v0
    · obtain ⟨rfl, rfl⟩ := e1
      rw [if_pos rfl, ha]
      exact ⟨fun _ => rfl, fun a => absurd (Or.inr (Or.inr ⟨rfl, by omega⟩)) a⟩
    · rw [if_neg (by omega)]
      refine ⟨fun a => ht.1 ?_, fun a => ht.2 (fun b => a ?_)⟩
      · unfold cf_td at *
        omega
      · unfold cf_td at *
        omega
theorem cf_xd_r {v0 u0 : Nat} {f fc : Nat → Int32} (h : cf_xd v0 u0 f fc) (hu : u0 = v0) : cf_xd (v0 + 1) 0 f fc := by
  intro y x q h1 h2 hq
  have ht := h y x q h1 h2 hq
  by_cases e : y = x
  · subst e
    exact ⟨fun a => (Classical.em (cf_td v0 u0 y y)).elim ht.1 ht.2, fun a => (Classical.em (cf_td v0 u0 y y)).elim ht.1 ht.2⟩
  · refine ⟨fun a => ht.1 ?_, fun a => ht.2 (fun b => a ?_)⟩
    · unfold cf_td at *
      omega
    · unfold cf_td at *
      omega
def cf_xD (n : Nat) (f f2 : Nat → Int32) : Prop := ∀ y x q, y < n → x < n → q < 64 → f2 (64 * (8 * y + x) + q) = f (64 * (8 * x + y) + q)
theorem cf_xd_e {n : Nat} {f fc : Nat → Int32} (h : cf_xd n 0 f fc) (hn : n ≤ 8) : cf_xD n f fc := fun y x q h1 h2 hq => (h y x q (by omega) (by omega) hq).1 (Or.inl ⟨h1, h2⟩)
/-- every block of W by H transposed within: rows y0, x0 of row y0 -/
def cf_ti (W y0 x0 : Nat) (f fc : Nat → Int32) : Prop := ∀ x y q, x < W → q < 64 → fc (64 * (8 * y + x) + q) = if y < y0 ∨ (y = y0 ∧ x < x0) then f (64 * (8 * y + x) + (8 * (q % 8) + q / 8)) else f (64 * (8 * y + x) + q)
theorem cf_ti_0 {W : Nat} {f : Nat → Int32} : cf_ti W 0 0 f f := fun x y q _ _ => by rw [if_neg (by omega)]
theorem cf_ti_s {W y0 x0 : Nat} {f fc f2 : Nat → Int32} (h : cf_ti W y0 x0 f fc) (hW : W ≤ 8) (hx : x0 < W) (H : cf_tB (8 * y0 + x0) fc f2) : cf_ti W y0 (x0 + 1) f f2 := by
  intro x y q g1 g2
  by_cases e : x = x0 ∧ y = y0
  · obtain ⟨rfl, rfl⟩ := e
    rw [H.1 q g2, h x y _ g1 (cf_q8 g2), if_neg (by omega), if_pos (by omega)]
  · rw [H.2 (8 * y + x) q g2 (by omega), h x y q g1 g2]
    by_cases e3 : y < y0 ∨ (y = y0 ∧ x < x0)
    · rw [if_pos e3, if_pos (by omega)]
    · rw [if_neg e3, if_neg (by omega)]
theorem cf_ti_r {W y0 x0 : Nat} {f fc : Nat → Int32} (h : cf_ti W y0 x0 f fc) (hx : x0 = W) : cf_ti W (y0 + 1) 0 f fc := by
  intro x y q g1 g2
  rw [h x y q g1 g2]
  by_cases e3 : y < y0 ∨ (y = y0 ∧ x < x0)
  · rw [if_pos e3, if_pos (by omega)]
  · rw [if_neg e3, if_neg (by omega)]
theorem cf_ti_e {w h n : Nat} {f f1 f2 : Nat → Int32} (H1 : cf_xD n f f1) (H2 : cf_ti h w 0 f1 f2) (hw : w ≤ n) (hh : h ≤ n) : cf_Ag h w (cf_V f2) (cf_tr (cf_V f)) := fun x y q g1 g2 g3 => by
  unfold cf_V cf_tr
  rw [H2 x y q g1 g3, if_pos (by omega), H1 y x _ (by omega) (by omega) (cf_q8 g3)]
/-! places filled in order: rows y0, then x0 blocks of row y0, then p0 places of block (x0, y0) hold F -/
def cf_dn (W y0 x0 p0 : Nat) (m : Nat → Int32) (F : cf_G) : Prop := ∀ x y q, x < W → q < 64 → (y < y0 ∨ (y = y0 ∧ (x < x0 ∨ (x = x0 ∧ q < p0)))) → m (64 * (8 * y + x) + q) = F x y q
theorem cf_dn_0 {W : Nat} {m : Nat → Int32} {F : cf_G} : cf_dn W 0 0 0 m F := fun x y q _ _ h => by omega
theorem cf_dn_s {W y0 x0 p0 : Nat} {m : Nat → Int32} {F : cf_G} {v : Int32} (h : cf_dn W y0 x0 p0 m F) (hW : W ≤ 8) (hx : x0 < W) (hp : p0 < 64) (hv : v = F x0 y0 p0) : cf_dn W y0 x0 (p0 + 1) (upd m (64 * (8 * y0 + x0) + p0) v) F := by
  intro x y q g1 g2 g3
  unfold upd
  by_cases e : 64 * (8 * y + x) + q = 64 * (8 * y0 + x0) + p0
  · obtain ⟨rfl, rfl, rfl⟩ : x = x0 ∧ y = y0 ∧ q = p0 := by omega
    rw [if_pos rfl, hv]
  · rw [if_neg e]
    exact h x y q g1 g2 (by omega)
theorem cf_dn_b {W y0 x0 p0 : Nat} {m : Nat → Int32} {F : cf_G} (h : cf_dn W y0 x0 p0 m F) (hp : p0 = 64) : cf_dn W y0 (x0 + 1) 0 m F := fun x y q g1 g2 g3 => h x y q g1 g2 (by omega)
theorem cf_dn_r {W y0 x0 : Nat} {m : Nat → Int32} {F : cf_G} (h : cf_dn W y0 x0 0 m F) (hx : x0 = W) : cf_dn W (y0 + 1) 0 0 m F := fun x y q g1 g2 g3 => h x y q g1 g2 (by omega)
theorem cf_dn_e {w h : Nat} {m : Nat → Int32} {F : cf_G} (H : cf_dn w h 0 0 m F) : cf_Ag w h (cf_V m) F := fun x y q g1 g2 g3 => H x y q g1 g3 (Or.inl g2)
/-- a block filled at once -/
def cf_fb (i : Nat) (v : Nat → Int32) (f f2 : Nat → Int32) : Prop := ∀ k, f2 k = if 64 * i ≤ k ∧ k < 64 * i + 64 then v k else f k
def cf_fk (i : Nat) (v : Nat → Int32) (k0 : Nat) (f fc : Nat → Int32) : Prop := ∀ k, fc k = if 64 * i ≤ k ∧ k < k0 then v k else f k
theorem cf_fk_0 {i : Nat} {v f : Nat → Int32} : cf_fk i v (64 * i) f f := fun k => by rw [if_neg (by omega)]
theorem cf_fk_s {i k0 : Nat} {v f fc : Nat → Int32} (h : cf_fk i v k0 f fc) (hk : 64 * i ≤ k0) : cf_fk i v (k0 + 1) f (upd fc k0 (v k0)) := fun k => by
  unfold upd
  by_cases e : k = k0
  · subst e
    rw [if_pos rfl, if_pos (by omega)]
  · rw [if_neg e, h k]
    by_cases e2 : 64 * i ≤ k ∧ k < k0
    · rw [if_pos e2, if_pos (by omega)]
    · rw [if_neg e2, if_neg (by omega)]
theorem cf_fb_dn {W y0 x0 : Nat} {v m m2 : Nat → Int32} (h : cf_dn W y0 x0 0 m (cf_V v)) (hW : W ≤ 8) (hx : x0 < W) (H : cf_fb (8 * y0 + x0) v m m2) : cf_dn W y0 (x0 + 1) 0 m2 (cf_V v) := by
  intro x y q g1 g2 g3
  rw [H]
  by_cases e : x = x0 ∧ y = y0
  · obtain ⟨rfl, rfl⟩ := e
    rw [if_pos (by omega)]
    rfl
  · rw [if_neg (by omega)]
    exact h x y q g1 g2 (by omega)
/-! the first k0 places copied -/
def cf_cp (k0 : Nat) (m fc : Nat → Int32) : Prop := ∀ k, k < k0 → fc k = m k
theorem cf_cp_0 {m f : Nat → Int32} : cf_cp 0 m f := fun k h => by omega
theorem cf_cp_s {k0 : Nat} {m fc : Nat → Int32} (h : cf_cp k0 m fc) : cf_cp (k0 + 1) m (upd fc k0 (m k0)) := fun k hk => by
  unfold upd
  by_cases e : k = k0
  · rw [if_pos e, e]
  · rw [if_neg e]
    exact h k (by omega)
theorem cf_cp_ag {w h : Nat} {m f : Nat → Int32} (H : cf_cp 4096 m f) (hw : w ≤ 8) (hh : h ≤ 8) : cf_Ag w h (cf_V f) (cf_V m) := fun x y q g1 g2 g3 => H _ (by omega)
/-! the class's crop: row by row -/
def cf_cw (X Y w y0 : Nat) (f fc : Nat → Int32) : Prop := (∀ k, 512 * y0 ≤ k → fc k = f k) ∧ ∀ x y q, x < w → y < y0 → q < 64 → fc (64 * (8 * y + x) + q) = f (64 * (8 * (Y + y) + (X + x)) + q)
theorem cf_cw_0 {X Y w : Nat} {f : Nat → Int32} : cf_cw X Y w 0 f f := ⟨fun _ _ => rfl, fun x y q _ h _ => by omega⟩
theorem cf_cw_s {X Y w y0 : Nat} {f fc : Nat → Int32} (h : cf_cw X Y w y0 f fc) (hw : X + w ≤ 8) : cf_cw X Y w (y0 + 1) f (va_cpy fc fc (64 * (8 * (Y + y0) + X)) (64 * (8 * y0 + 0)) (w * 64)) := by
  refine ⟨fun k hk => ?_, fun x y q g1 g2 g3 => ?_⟩
  · unfold va_cpy
    rw [if_neg (by omega)]
    exact h.1 k (by omega)
  · unfold va_cpy
    by_cases e : y = y0
    · subst e
      rw [if_pos (by omega), h.1 _ (by omega)]
      congr 1
      omega
    · rw [if_neg (by omega)]
      exact h.2 x y q g1 (by omega) g3
theorem cf_cw_e {X Y w h : Nat} {f fc : Nat → Int32} (H : cf_cw X Y w h f fc) : cf_Ag w h (cf_V fc) (cf_cr X Y (cf_V f)) := fun x y q g1 g2 g3 => H.2 x y q g1 g2 g3
/-! folds -/
def cf_fo {S : Type} (st : S → Nat → S) : Nat → S → S
  | 0, a => a
  | n + 1, a => st (cf_fo st n a) n
theorem cf_fo_add {S : Type} (st : S → Nat → S) (m : Nat) (a : S) : ∀ n, cf_fo st (m + n) a = cf_fo (fun a j => st a (m + j)) n (cf_fo st m a)
  | 0 => rfl
  | n + 1 => by
    show st (cf_fo st (m + n) a) (m + n) = st (cf_fo (fun a j => st a (m + j)) n (cf_fo st m a)) (m + n)
    rw [cf_fo_add st m a n]
theorem cf_fo_mul {S : Type} (st : S → Nat → S) (a : S) : ∀ w, cf_fo st (64 * w) a = cf_fo (fun a x => cf_fo (fun a q => st a (64 * x + q)) 64 a) w a
  | 0 => rfl
  | w + 1 => by
    rw [show 64 * (w + 1) = 64 * w + 64 by omega, cf_fo_add, cf_fo_mul st a w]
    rfl
theorem cf_fo_congr {S : Type} {st st' : S → Nat → S} {a : S} : ∀ n, (∀ a j, j < n → st a j = st' a j) → cf_fo st n a = cf_fo st' n a
  | 0, _ => rfl
  | n + 1, h => by
    show st (cf_fo st n a) n = st' (cf_fo st' n a) n
    rw [cf_fo_congr n (fun a j hj => h a j (by omega)), h _ n (by omega)]
/-- over the plane, row by row, block by block, place by place -/
def cf_all {S : Type} (w h : Nat) (st : S → Nat → Nat → Nat → S) (a : S) : S := cf_fo (fun a y => cf_fo (fun a x => cf_fo (fun a q => st a x y q) 64 a) w a) h a
theorem cf_all_lin {S : Type} (w h : Nat) (st : S → Nat → S) (a : S) : cf_fo (fun a y => cf_fo (fun a j => st a (512 * y + j)) (64 * w) a) h a = cf_all w h (fun a x y q => st a (64 * (8 * y + x) + q)) a := by
  unfold cf_all
  refine cf_fo_congr h (fun a y _ => ?_)
  rw [cf_fo_mul]
  refine cf_fo_congr w (fun a x _ => cf_fo_congr 64 (fun a q _ => ?_))
  rw [show 512 * y + (64 * x + q) = 64 * (8 * y + x) + q by omega]
theorem cf_all_congr {S : Type} {w h : Nat} {st st' : S → Nat → Nat → Nat → S} {a : S} (H : ∀ a x y q, x < w → y < h → q < 64 → st a x y q = st' a x y q) : cf_all w h st a = cf_all w h st' a :=
  cf_fo_congr h (fun a y hy => cf_fo_congr w (fun a x hx => cf_fo_congr 64 (fun a q hq => H a x y q hx hy hq)))
def cf_df (w h : Nat) (G K : cf_G) : Int32 := cf_all w h (fun a x y q => if G x y q = K x y q then a else a + 1) 0
def cf_nz (w h : Nat) (G : cf_G) : Int32 := cf_all w h (fun a x y q => if G x y q = 0 then a else a + 1) 0
def cf_ms (a v : Int32) : Int32 := if a < v then v else if a < -v then -v else a
def cf_mo (w h : Nat) (G : cf_G) : Int32 := cf_all w h (fun a x y q => cf_ms a (G x y q)) 0
def cf_su (w h : Nat) (G : cf_G) (q : Nat) : Int64 := cf_fo (fun a y => cf_fo (fun a x => a + (nI (1 + x + 8 * y)).toInt64 * (G x y q).toInt64) w a) h 0
def cf_fr (G : cf_G) (x y b : Nat) : Int64 := cf_fo (fun a k => (a <<< ((nI 16).toInt64 &&& 63)) ||| ((G x y (b + k)) &&& nI 65535).toInt64) 4 0
theorem cf_df_ag {w h : Nat} {G G' K K' : cf_G} (a : cf_Ag w h G G') (b : cf_Ag w h K K') : cf_df w h G K = cf_df w h G' K' := cf_all_congr (fun c x y q h1 h2 h3 => by rw [a x y q h1 h2 h3, b x y q h1 h2 h3])
theorem cf_nz_ag {w h : Nat} {G G' : cf_G} (a : cf_Ag w h G G') : cf_nz w h G = cf_nz w h G' := cf_all_congr (fun c x y q h1 h2 h3 => by rw [a x y q h1 h2 h3])
theorem cf_mo_ag {w h : Nat} {G G' : cf_G} (a : cf_Ag w h G G') : cf_mo w h G = cf_mo w h G' := cf_all_congr (fun c x y q h1 h2 h3 => by rw [a x y q h1 h2 h3])
theorem cf_su_ag {w h q : Nat} {G G' : cf_G} (a : cf_Ag w h G G') (hq : q < 64) : cf_su w h G q = cf_su w h G' q := cf_fo_congr h (fun c y hy => cf_fo_congr w (fun c x hx => by rw [a x y q hx hy hq]))
theorem cf_fr_ag {w h x y b : Nat} {G G' : cf_G} (a : cf_Ag w h G G') (hx : x < w) (hy : y < h) (hb : b + 4 ≤ 64) : cf_fr G x y b = cf_fr G' x y b := cf_fo_congr 4 (fun c k hk => by rw [a x y (b + k) hx hy (by omega)])
theorem cf_ms_pos {a v : Int32} (h : 0 ≤ a) : 0 ≤ cf_ms a v := by
  unfold cf_ms
  by_cases h1 : a < v
  · rw [if_pos h1]
    rw [Int32.le_iff_toInt_le] at *
    rw [Int32.lt_iff_toInt_lt] at h1
    omega
  · rw [if_neg h1]
    by_cases h2 : a < -v
    · rw [if_pos h2]
      rw [Int32.le_iff_toInt_le] at *
      rw [Int32.lt_iff_toInt_lt] at h2
      omega
    · rw [if_neg h2]
      exact h
end
section
/-! the arguments' tests, in the words of both classes -/
def cf_near (b : Int32) : Int32 := if b < nI 1 then nI 1 else if nI 8 < b then nI 8 else b
theorem cf_near_c (b : Int32) : (if nI 1 < (if b < nI 8 then b else nI 8) then (if b < nI 8 then b else nI 8) else nI 1) = cf_near b := by
  have e1 : (nI 1).toInt = 1 := nI_toInt (by omega)
  have e8 : (nI 8).toInt = 8 := nI_toInt (by omega)
  unfold cf_near
  by_cases h1 : b < nI 8
  · rw [if_pos h1]
    have h1' := h1
    rw [Int32.lt_iff_toInt_lt, e8] at h1'
    by_cases h2 : nI 1 < b
    · have h2' := h2
      rw [Int32.lt_iff_toInt_lt, e1] at h2'
      rw [if_pos h2, if_neg (by rw [Int32.lt_iff_toInt_lt, e1]; omega), if_neg (by rw [Int32.lt_iff_toInt_lt, e8]; omega)]
    · have h2' := h2
      rw [Int32.lt_iff_toInt_lt, e1] at h2'
      rw [if_neg h2]
      by_cases h3 : b < nI 1
      · rw [if_pos h3]
      · have h3' := h3
        rw [Int32.lt_iff_toInt_lt, e1] at h3'
        rw [if_neg h3, if_neg (by rw [Int32.lt_iff_toInt_lt, e8]; omega)]
        apply Int32.toInt_inj.mp
        omega
  · have h1' := h1
    rw [Int32.lt_iff_toInt_lt, e8] at h1'
    rw [if_neg h1, if_pos (by rw [Int32.lt_iff_toInt_lt, e1, e8]; omega), if_neg (by rw [Int32.lt_iff_toInt_lt, e1]; omega)]
    by_cases h2 : nI 8 < b
    · rw [if_pos h2]
    · have h2' := h2
      rw [Int32.lt_iff_toInt_lt, e8] at h2'
      rw [if_neg h2]
      apply Int32.toInt_inj.mp
      omega
theorem cf_near_n (b : Int32) : ∃ n : Nat, 1 ≤ n ∧ n ≤ 8 ∧ cf_near b = nI n := by
  have e1 : (nI 1).toInt = 1 := nI_toInt (by omega)
  have e8 : (nI 8).toInt = 8 := nI_toInt (by omega)
  unfold cf_near
  by_cases h1 : b < nI 1
  · exact ⟨1, by omega, by omega, by rw [if_pos h1]⟩
  · rw [if_neg h1]
    by_cases h2 : nI 8 < b
    · exact ⟨8, by omega, by omega, by rw [if_pos h2]⟩
    · rw [if_neg h2]
      rw [Int32.lt_iff_toInt_lt, e1] at h1
      rw [Int32.lt_iff_toInt_lt, e8] at h2
      obtain ⟨j, hj, rfl⟩ := nI_of (x := b) (by rw [Int32.lt_iff_toInt_lt, Int32.toInt_zero]; omega)
      rw [nI_toInt hj] at h1 h2
      exact ⟨j, by omega, by omega, rfl⟩
def cf_ip (q : Int32) : Int32 := if q < 0 then nI 0 else if nI 64 ≤ q then nI 0 else nI 1
def cf_ib (w h : Nat) (bx bz : Int32) : Int32 := if bx < 0 then nI 0 else if nI w ≤ bx then nI 0 else if bz < 0 then nI 0 else if nI h ≤ bz then nI 0 else nI 1
theorem cf_in {q : Int32} {n : Nat} (hn : n < 2 ^ 31) (h1 : ¬ q < 0) (h2 : ¬ nI n ≤ q) : ∃ j : Nat, j < n ∧ q = nI j := by
  rcases pk_ix q hn with h | h | h
  · exact absurd h h1
  · exact absurd h h2
  · exact h
theorem cf_ip_1 {q : Int32} (h : ¬ cf_ip q = 0) : ∃ j : Nat, j < 64 ∧ q = nI j := by
  unfold cf_ip at h
  by_cases h1 : q < 0
  · rw [if_pos h1] at h; exact absurd nI_0 h
  · rw [if_neg h1] at h
    by_cases h2 : nI 64 ≤ q
    · rw [if_pos h2] at h; exact absurd nI_0 h
    · exact cf_in (by omega) h1 h2
theorem cf_ib_1 {w h : Nat} (hw : w ≤ 8) (hh : h ≤ 8) {bx bz : Int32} (g : ¬ cf_ib w h bx bz = 0) : ∃ x z : Nat, x < w ∧ z < h ∧ bx = nI x ∧ bz = nI z := by
  unfold cf_ib at g
  by_cases h1 : bx < 0
  · rw [if_pos h1] at g; exact absurd nI_0 g
  · rw [if_neg h1] at g
    by_cases h2 : nI w ≤ bx
    · rw [if_pos h2] at g; exact absurd nI_0 g
    · rw [if_neg h2] at g
      by_cases h3 : bz < 0
      · rw [if_pos h3] at g; exact absurd nI_0 g
      · rw [if_neg h3] at g
        by_cases h4 : nI h ≤ bz
        · rw [if_pos h4] at g; exact absurd nI_0 g
        · obtain ⟨x, hx, ex⟩ := cf_in (by omega) h1 h2
          obtain ⟨z, hz, ez⟩ := cf_in (by omega) h3 h4
          exact ⟨x, z, hx, hz, ex, ez⟩
theorem cf_ib_n {w h x z : Nat} (hw : w ≤ 8) (hh : h ≤ 8) (hx : x < w) (hz : z < h) : cf_ib w h (nI x) (nI z) = nI 1 := by
  unfold cf_ib
  rw [if_neg (nI_pos (by omega)), if_neg (nI_ge hx (by omega)), if_neg (nI_pos (by omega)), if_neg (nI_ge hz (by omega))]
theorem cf_ip_n {q : Nat} (h : q < 64) : cf_ip (nI q) = nI 1 := by
  unfold cf_ip
  rw [if_neg (nI_pos (by omega)), if_neg (nI_ge h (by omega))]
theorem cf_11 : ¬ (nI 1 : Int32) = 0 := nI_ne0 (by omega) (by omega)
theorem cf_00 : (nI 0 : Int32) = 0 := nI_0
theorem cf_maxN {w h : Nat} (hw : w ≤ 8) (hh : h ≤ 8) : ∃ N : Nat, (if nI w < nI h then nI h else nI w) = nI N ∧ w ≤ N ∧ h ≤ N ∧ N ≤ 8 := by
  by_cases g : w < h
  · exact ⟨h, by rw [if_pos ((nI_ltI (by omega) (by omega)).mpr g)], by omega, by omega, hh⟩
  · exact ⟨w, by rw [if_neg (mt (nI_ltI (by omega) (by omega)).mp g)], by omega, by omega, hw⟩
/-- what a seed fills in at place k -/
def cf_fil (seed : Int32) (k : Nat) : Int32 :=
  ((((seed + nI k * nI 40503) * (-1640531535)).toUInt32 >>> ((nI 20).toUInt32 &&& Int32.toUInt32 31)).toInt32 - (((seed + nI k * nI 40503) * (-1640531535)).toUInt32 >>> ((nI 20).toUInt32 &&& Int32.toUInt32 31)).toInt32 / nI 2047 * nI 2047) - nI 1023
/-! linear folds, as the class's loops go -/
def cf_row {S : Type} (st : S → Nat → S) (y n : Nat) (a : S) : S := cf_fo (fun a j => st a (512 * y + j)) n a
def cf_lin {S : Type} (st : S → Nat → S) (w y : Nat) (a : S) : S := cf_fo (fun a y => cf_row st y (64 * w) a) y a
theorem cf_row_s {S : Type} {st : S → Nat → S} {y k : Nat} {a : S} (hk : 512 * y ≤ k) : cf_row st y (k + 1 - 512 * y) a = st (cf_row st y (k - 512 * y) a) k := by
  rw [show k + 1 - 512 * y = (k - 512 * y) + 1 by omega]
  show st _ (512 * y + (k - 512 * y)) = _
  rw [show 512 * y + (k - 512 * y) = k by omega]
  rfl
theorem cf_row_0 {S : Type} {st : S → Nat → S} {y k : Nat} {a : S} (hk : k = 512 * y) : cf_row st y (k - 512 * y) a = a := by
  rw [show k - 512 * y = 0 by omega]
  rfl
theorem cf_row_e {S : Type} {st : S → Nat → S} {w y k : Nat} {a : S} (hk : k = 512 * y + 64 * w) : cf_row st y (k - 512 * y) (cf_lin st w y a) = cf_lin st w (y + 1) a := by
  rw [show k - 512 * y = 64 * w by omega]
  rfl
theorem cf_lin_e {S : Type} (st : S → Nat → S) (w h : Nat) (a : S) : cf_lin st w h a = cf_all w h (fun a x y q => st a (64 * (8 * y + x) + q)) a := cf_all_lin w h st a
def cf_dif (w h kw kh : Nat) (G K : cf_G) : Int32 := if w = kw ∧ h = kh then cf_df w h G K else (-1)
theorem cf_dif_ag {w h kw kh : Nat} {G G' K K' : cf_G} (a : cf_Ag w h G G') (b : cf_Ag kw kh K K') : cf_dif w h kw kh G K = cf_dif w h kw kh G' K' := by
  unfold cf_dif
  by_cases e : w = kw ∧ h = kh
  · rw [if_pos e, if_pos e]
    obtain ⟨rfl, rfl⟩ := e
    exact cf_df_ag a b
  · rw [if_neg e, if_neg e]
def cf_lk (w h kw kh : Nat) (G : cf_G) (i : Int32) : Int32 := if i = nI 0 then nI w else if i = nI 1 then nI h else if i = nI 2 then cf_nz w h G else if i = nI 3 then cf_mo w h G else if i = nI 4 then nI kw else if i = nI 5 then nI kh else (-1)
def cf_at (w h : Nat) (G : cf_G) (bx bz q : Int32) : Int32 := if cf_ib w h bx bz = 0 then 0 else if cf_ip q = 0 then 0 else G bx.toNatClampNeg bz.toNatClampNeg q.toNatClampNeg
theorem cf_at_ag {w h : Nat} {G G' : cf_G} (a : cf_Ag w h G G') (hw : w ≤ 8) (hh : h ≤ 8) (bx bz q : Int32) : cf_at w h G bx bz q = cf_at w h G' bx bz q := by
  unfold cf_at
  by_cases h1 : cf_ib w h bx bz = 0
  · rw [if_pos h1, if_pos h1]
  · rw [if_neg h1, if_neg h1]
    by_cases h2 : cf_ip q = 0
    · rw [if_pos h2, if_pos h2]
    · rw [if_neg h2, if_neg h2]
      obtain ⟨x, z, hx, hz, rfl, rfl⟩ := cf_ib_1 hw hh h1
      obtain ⟨j, hj, rfl⟩ := cf_ip_1 h2
      rw [nI_clamp (by omega), nI_clamp (by omega), nI_clamp (by omega)]
      exact a x z j hx hz hj
theorem cf_at_n {w h x z j : Nat} {G : cf_G} (hw : w ≤ 8) (hh : h ≤ 8) (hx : x < w) (hz : z < h) (hj : j < 64) : cf_at w h G (nI x) (nI z) (nI j) = G x z j := by
  unfold cf_at
  rw [cf_ib_n hw hh hx hz, cf_ip_n hj, if_neg cf_11, if_neg cf_11, nI_clamp (by omega), nI_clamp (by omega), nI_clamp (by omega)]
theorem cf_mi_fin {w h : Nat} {f fc : Nat → Int32} {U : cf_G} (a : cf_mx w h 0 f fc) (b : cf_Ag w h U (cf_nG 1 (cf_V fc))) : cf_Ag w h U (cf_mi w (cf_V f)) := fun x y q g1 g2 g3 => by
  rw [b x y q g1 g2 g3]
  unfold cf_nG cf_mi cf_V
  have e : fc (64 * (8 * y + x) + q) = f (64 * (8 * y + (w - 1 - x)) + q) := by rw [a x y q g1 g3, if_pos (Or.inl g2)]
  rw [e, Nat.div_one]
theorem cf_fl_fin {w h y0 : Nat} {f fc : Nat → Int32} {U : cf_G} (a : cf_fx w h y0 0 f fc) (e : y0 = h / 2) (b : cf_Ag w h U (cf_nG 8 (cf_V fc))) : cf_Ag w h U (cf_fl h (cf_V f)) := fun x y q g1 g2 g3 => by
  rw [b x y q g1 g2 g3]
  unfold cf_nG cf_fl cf_V
  rw [a x y q g1 g2 g3]
  by_cases e1 : (y < y0 ∨ h - 1 - y < y0) ∨ ((y = y0 ∨ h - 1 - y = y0) ∧ x < 0)
  · rw [if_pos e1]
  · rw [if_neg e1, show h - 1 - y = y by omega]
theorem cf_ng_n2 {b w y0 k : Nat} {f fc : Nat → Int32} (h : cf_ng b w y0 (k - 512 * y0) f fc) (hb : b = 1 ∨ b = 8) (hw : w ≤ 8) (h1 : 512 * y0 ≤ k) (h2 : k < 512 * y0 + 64 * w) (ho : k / b % 2 = 1) : cf_ng b w y0 (k + 1 - 512 * y0) f (upd fc k (-(fc k))) := by
  obtain ⟨j, rfl⟩ : ∃ j, k = 512 * y0 + j := ⟨k - 512 * y0, by omega⟩
  rw [show 512 * y0 + j + 1 - 512 * y0 = j + 1 by omega]
  rw [show 512 * y0 + j - 512 * y0 = j by omega] at h
  exact cf_ng_n h hb hw (by omega) ho
theorem cf_ng_k2 {b w y0 k : Nat} {f fc : Nat → Int32} (h : cf_ng b w y0 (k - 512 * y0) f fc) (hb : b = 1 ∨ b = 8) (hw : w ≤ 8) (h1 : 512 * y0 ≤ k) (h2 : k < 512 * y0 + 64 * w) (ho : ¬ k / b % 2 = 1) : cf_ng b w y0 (k + 1 - 512 * y0) f fc := by
  obtain ⟨j, rfl⟩ : ∃ j, k = 512 * y0 + j := ⟨k - 512 * y0, by omega⟩
  rw [show 512 * y0 + j + 1 - 512 * y0 = j + 1 by omega]
  rw [show 512 * y0 + j - 512 * y0 = j by omega] at h
  exact cf_ng_k h hb hw (by omega) ho
theorem cf_ng_z {b w y0 k : Nat} {f fc : Nat → Int32} (h : cf_ng b w y0 0 f fc) (e : k = 512 * y0) : cf_ng b w y0 (k - 512 * y0) f fc := by
  rw [show k - 512 * y0 = 0 by omega]; exact h
theorem cf_ng_w {b w y0 k : Nat} {f fc : Nat → Int32} (h : cf_ng b w y0 (k - 512 * y0) f fc) (e : k = 512 * y0 + 64 * w) : cf_ng b w (y0 + 1) 0 f fc := cf_ng_r h (by omega)
/-- the greatest size: the class's step and the model's -/
def cf_mc (a v : Int32) : Int32 := if a < (if 0 ≤ v then v else 0 - v) then (if 0 ≤ v then v else 0 - v) else a
theorem cf_mc_ms {a v : Int32} (h : 0 ≤ a) : cf_mc a v = cf_ms a v := by
  have z : (0 : Int32) - v = -v := by
    apply Int32.toBitVec_inj.mp
    simp
  unfold cf_mc cf_ms
  rw [z]
  by_cases h1 : 0 ≤ v
  · rw [if_pos h1]
    by_cases h2 : a < v
    · rw [if_pos h2, if_pos h2]
    · rw [if_neg h2, if_neg h2]
      have h3 : ¬ a < -v := by
        intro g
        rw [Int32.le_iff_toInt_le, Int32.toInt_zero] at h h1
        rw [Int32.lt_iff_toInt_lt, Int32.toInt_neg] at g
        have b1 := Int32.le_toInt v
        have b2 := Int32.toInt_lt v
        rw [Int.bmod_def] at g
        omega
      rw [if_neg h3]
  · rw [if_neg h1]
    have h2 : ¬ a < v := by
      intro g
      rw [Int32.le_iff_toInt_le, Int32.toInt_zero] at h h1
      rw [Int32.lt_iff_toInt_lt] at g
      omega
    rw [if_neg h2]
theorem cf_fo_inv {S : Type} {st : S → Nat → S} (I : S → Prop) (hs : ∀ a j, I a → I (st a j)) {a : S} (h : I a) : ∀ n, I (cf_fo st n a)
  | 0 => h
  | n + 1 => hs _ n (cf_fo_inv I hs h n)
theorem cf_nlt {x y : Int32} (h : x ≤ y) : ¬ y < x := by
  rw [Int32.lt_iff_toInt_lt]
  rw [Int32.le_iff_toInt_le] at h
  omega
theorem cf_nle {x y : Int32} (h : ¬ x ≤ y) : y < x := by
  rw [Int32.lt_iff_toInt_lt]
  rw [Int32.le_iff_toInt_le] at h
  omega
theorem cf_fo_k {S : Type} (st : S → Nat → S) {b k : Nat} {a x : S} (h : b ≤ k) (e : x = st (cf_fo st (k - b) a) (k - b)) : x = cf_fo st (k + 1 - b) a := by
  rw [show k + 1 - b = (k - b) + 1 by omega]
  exact e
end
section
/-! answers of the calls that may refuse -/
def cf_swr (w h : Nat) (ax az bx bz : Int32) : Int32 := if cf_ib w h ax az = 0 then nI 0 else if cf_ib w h bx bz = 0 then nI 0 else nI 1
def cf_swG (w h : Nat) (ax az bx bz : Int32) (G : cf_G) : cf_G := if cf_ib w h ax az = 0 then G else if cf_ib w h bx bz = 0 then G else cf_sx ax.toNatClampNeg az.toNatClampNeg bx.toNatClampNeg bz.toNatClampNeg G
theorem cf_swG_n {w h x z x2 z2 : Nat} {G : cf_G} (hw : w ≤ 8) (hh : h ≤ 8) (h1 : x < w) (h2 : z < h) (h3 : x2 < w) (h4 : z2 < h) : cf_swG w h (nI x) (nI z) (nI x2) (nI z2) G = cf_sx x z x2 z2 G := by
  unfold cf_swG
  rw [cf_ib_n hw hh h1 h2, cf_ib_n hw hh h3 h4, if_neg cf_11, if_neg cf_11, nI_clamp (by omega), nI_clamp (by omega), nI_clamp (by omega), nI_clamp (by omega)]
theorem cf_swr_n {w h x z x2 z2 : Nat} (hw : w ≤ 8) (hh : h ≤ 8) (h1 : x < w) (h2 : z < h) (h3 : x2 < w) (h4 : z2 < h) : cf_swr w h (nI x) (nI z) (nI x2) (nI z2) = nI 1 := by
  unfold cf_swr
  rw [cf_ib_n hw hh h1 h2, cf_ib_n hw hh h3 h4, if_neg cf_11, if_neg cf_11]
theorem cf_swG_ag {w h : Nat} {G G' : cf_G} (a : cf_Ag w h G G') (hw : w ≤ 8) (hh : h ≤ 8) (ax az bx bz : Int32) : cf_Ag w h (cf_swG w h ax az bx bz G) (cf_swG w h ax az bx bz G') := by
  unfold cf_swG
  by_cases h1 : cf_ib w h ax az = 0
  · rw [if_pos h1, if_pos h1]; exact a
  · rw [if_neg h1, if_neg h1]
    by_cases h2 : cf_ib w h bx bz = 0
    · rw [if_pos h2, if_pos h2]; exact a
    · rw [if_neg h2, if_neg h2]
      obtain ⟨x, z, hx, hz, rfl, rfl⟩ := cf_ib_1 hw hh h1
      obtain ⟨x2, z2, hx2, hz2, rfl, rfl⟩ := cf_ib_1 hw hh h2
      rw [nI_clamp (by omega), nI_clamp (by omega), nI_clamp (by omega), nI_clamp (by omega)]
      exact cf_sx_ag a hx hz hx2 hz2
/-- a crop that can be -/
def cf_ok (w h : Nat) (x y a b : Int32) (X Y A B : Nat) : Prop := x = nI X ∧ y = nI Y ∧ a = nI A ∧ b = nI B ∧ X + A ≤ w ∧ Y + B ≤ h ∧ 1 ≤ A ∧ 1 ≤ B
theorem cf_ok_u {w h : Nat} {x y a b : Int32} {X Y A B X' Y' A' B' : Nat} (hw : w ≤ 8) (hh : h ≤ 8) (p : cf_ok w h x y a b X Y A B) (q : cf_ok w h x y a b X' Y' A' B') : X = X' ∧ Y = Y' ∧ A = A' ∧ B = B' := by
  obtain ⟨p1, p2, p3, p4, p5, p6, p7, p8⟩ := p
  obtain ⟨q1, q2, q3, q4, q5, q6, q7, q8⟩ := q
  exact ⟨(nI_eq (by omega) (by omega)).mp (p1.symm.trans q1), (nI_eq (by omega) (by omega)).mp (p2.symm.trans q2), (nI_eq (by omega) (by omega)).mp (p3.symm.trans q3), (nI_eq (by omega) (by omega)).mp (p4.symm.trans q4)⟩
theorem cf_one : (nI 1).toInt = 1 := nI_toInt (by omega)
theorem cf_nat {x : Int32} (h : ¬ x < 0) : ∃ n : Nat, x = nI n ∧ n < 2147483648 := by
  obtain ⟨j, hj, e⟩ := nI_of h
  exact ⟨j, e, by omega⟩
theorem cf_pos {x : Int32} (h : ¬ x < nI 1) : ∃ n : Nat, x = nI n ∧ n < 2147483648 ∧ 1 ≤ n := by
  have h0 : ¬ x < 0 := by
    rw [Int32.lt_iff_toInt_lt, Int32.toInt_zero]
    rw [Int32.lt_iff_toInt_lt, cf_one] at h
    omega
  obtain ⟨n, e, hn⟩ := cf_nat h0
  refine ⟨n, e, hn, ?_⟩
  rw [Int32.lt_iff_toInt_lt, cf_one, e, nI_toInt (by omega)] at h
  omega
theorem cf_subI {w x : Nat} (hw : w ≤ 8) (hx : x < 2147483648) : (nI w - nI x).toInt = (w : Int) - x := by
  rw [Int32.toInt_sub, nI_toInt (by omega), nI_toInt (by omega), Int.bmod_def]
  omega
/-- the class's last test and the model's -/
theorem cf_crop_c {w X A : Nat} (hw : w ≤ 8) (hX : X < 2147483648) (hA : A < 2147483648) : nI w - nI X < nI A ↔ ¬ X + A ≤ w := by
  rw [Int32.lt_iff_toInt_lt, cf_subI hw hX, nI_toInt (by omega)]
  omega
theorem cf_crop_m {w X A : Nat} (hw : w ≤ 8) (hX : X < 2147483648) (hA : A ≤ w) : nI w - nI A < nI X ↔ ¬ X + A ≤ w := by
  rw [Int32.lt_iff_toInt_lt, cf_subI hw (by omega), nI_toInt (by omega)]
  omega
theorem cf_no1 {w h : Nat} {x y a b : Int32} (hw : w ≤ 8) (hh : h ≤ 8) (g : x < 0 ∨ y < 0 ∨ a < nI 1 ∨ b < nI 1) : ¬ ∃ X Y A B, cf_ok w h x y a b X Y A B := by
  rintro ⟨X, Y, A, B, p1, p2, p3, p4, p5, p6, p7, p8⟩
  rcases g with g | g | g | g
  · rw [p1] at g; exact nI_pos (by omega) g
  · rw [p2] at g; exact nI_pos (by omega) g
  · rw [p3, nI_ltI (by omega) (by omega)] at g; omega
  · rw [p4, nI_ltI (by omega) (by omega)] at g; omega
theorem cf_no2 {w h X Y A B : Nat} (hX : X < 2147483648) (hY : Y < 2147483648) (hA : A < 2147483648) (hB : B < 2147483648) (hw : w ≤ 8) (hh : h ≤ 8) (g : ¬ X + A ≤ w ∨ ¬ Y + B ≤ h) : ¬ ∃ X' Y' A' B', cf_ok w h (nI X) (nI Y) (nI A) (nI B) X' Y' A' B' := by
  rintro ⟨X', Y', A', B', p1, p2, p3, p4, p5, p6, p7, p8⟩
  rw [nI_eq (by omega) (by omega)] at p1 p2 p3 p4
  omega
/-! put -/
def cf_pk (w h : Nat) (bx bz q v : Int32) : Int32 := if cf_ib w h bx bz = 0 then nI 1 else if cf_ip q = 0 then nI 1 else if v < (-32767) then nI 2 else if nI 32767 < v then nI 2 else nI 0
def cf_p1 (x z j : Nat) (v : Int32) (G : cf_G) : cf_G := fun a b c => if a = x ∧ b = z ∧ c = j then v else G a b c
def cf_pu (w h : Nat) (bx bz q v : Int32) (G : cf_G) : cf_G := if cf_pk w h bx bz q v = 0 then cf_p1 bx.toNatClampNeg bz.toNatClampNeg q.toNatClampNeg v G else G
theorem cf_p1_ag {w h x z j : Nat} {v : Int32} {G G' : cf_G} (a : cf_Ag w h G G') : cf_Ag w h (cf_p1 x z j v G) (cf_p1 x z j v G') := fun b c d h1 h2 h3 => by
  unfold cf_p1
  rw [a b c d h1 h2 h3]
theorem cf_pu_ag {w h : Nat} {bx bz q v : Int32} {G G' : cf_G} (a : cf_Ag w h G G') : cf_Ag w h (cf_pu w h bx bz q v G) (cf_pu w h bx bz q v G') := by
  unfold cf_pu
  by_cases e : cf_pk w h bx bz q v = 0
  · rw [if_pos e, if_pos e]; exact cf_p1_ag a
  · rw [if_neg e, if_neg e]; exact a
theorem cf_p1_upd {w h x z j : Nat} {v : Int32} {f : Nat → Int32} (hw : w ≤ 8) (hx : x < w) (hj : j < 64) : cf_Ag w h (cf_V (upd f (64 * (8 * z + x) + j) v)) (cf_p1 x z j v (cf_V f)) := fun a b c h1 h2 h3 => by
  unfold cf_V cf_p1 upd
  by_cases e : a = x ∧ b = z ∧ c = j
  · rw [if_pos e, if_pos (by omega)]
  · rw [if_neg e, if_neg (by omega)]
/-! four -/
def cf_fou (w h : Nat) (G : cf_G) (bx bz v t : Int32) : Int64 := if cf_ib w h bx bz = 0 then 0 else if v < 0 then 0 else if nI 8 ≤ v then 0 else if t < 0 then 0 else if nI 1 < t then 0 else cf_fr G bx.toNatClampNeg bz.toNatClampNeg (8 * v.toNatClampNeg + 4 * t.toNatClampNeg)
theorem cf_le1 {t : Int32} (h1 : ¬ t < 0) (h2 : ¬ nI 1 < t) : ∃ j : Nat, j < 2 ∧ t = nI j := by
  obtain ⟨n, rfl, hn⟩ := cf_nat h1
  rw [nI_ltI (by omega) (by omega)] at h2
  exact ⟨n, by omega, rfl⟩
theorem cf_gt7 (v : Int32) : nI 7 < v ↔ nI 8 ≤ v := by
  rw [Int32.lt_iff_toInt_lt, Int32.le_iff_toInt_le, nI_toInt (by omega), nI_toInt (by omega)]
  omega
theorem cf_fou_ag {w h : Nat} {G G' : cf_G} (a : cf_Ag w h G G') (hw : w ≤ 8) (hh : h ≤ 8) (bx bz v t : Int32) : cf_fou w h G bx bz v t = cf_fou w h G' bx bz v t := by
  unfold cf_fou
  by_cases h1 : cf_ib w h bx bz = 0
  · rw [if_pos h1, if_pos h1]
  · rw [if_neg h1, if_neg h1]
    by_cases h2 : v < 0
    · rw [if_pos h2, if_pos h2]
    · rw [if_neg h2, if_neg h2]
      by_cases h3 : nI 8 ≤ v
      · rw [if_pos h3, if_pos h3]
      · rw [if_neg h3, if_neg h3]
        by_cases h4 : t < 0
        · rw [if_pos h4, if_pos h4]
        · rw [if_neg h4, if_neg h4]
          by_cases h5 : nI 1 < t
          · rw [if_pos h5, if_pos h5]
          · rw [if_neg h5, if_neg h5]
            obtain ⟨x, z, hx, hz, rfl, rfl⟩ := cf_ib_1 hw hh h1
            obtain ⟨v0, hv, rfl⟩ := cf_in (by omega) h2 h3
            obtain ⟨t0, ht, rfl⟩ := cf_le1 h4 h5
            rw [nI_clamp (by omega), nI_clamp (by omega), nI_clamp (by omega), nI_clamp (by omega)]
            exact cf_fr_ag a hx hz (by omega)
theorem cf_fou_n {w h x z v0 t0 : Nat} {G : cf_G} (hw : w ≤ 8) (hh : h ≤ 8) (hx : x < w) (hz : z < h) (hv : v0 < 8) (ht : t0 < 2) : cf_fou w h G (nI x) (nI z) (nI v0) (nI t0) = cf_fr G x z (8 * v0 + 4 * t0) := by
  unfold cf_fou
  rw [cf_ib_n hw hh hx hz, if_neg cf_11, if_neg (nI_pos (by omega)), if_neg (nI_ge hv (by omega)), if_neg (nI_pos (by omega)), if_neg (by rw [nI_ltI (by omega) (by omega)]; omega), nI_clamp (by omega), nI_clamp (by omega), nI_clamp (by omega), nI_clamp (by omega)]
def cf_fst (f : Nat → Int32) (first : Nat) (a : Int64) (k : Nat) : Int64 := (a <<< ((nI 16).toInt64 &&& 63)) ||| ((f (first + k)) &&& nI 65535).toInt64
theorem cf_fst_e (f : Nat → Int32) (x z b : Nat) : cf_fo (cf_fst f (64 * (8 * z + x) + b)) 4 0 = cf_fr (cf_V f) x z b := by
  unfold cf_fr
  refine cf_fo_congr 4 (fun a k _ => ?_)
  unfold cf_fst cf_V
  rw [Nat.add_assoc]
/-! turn -/
theorem cf_tu_s : ∀ (k w h : Nat) (G : cf_G), cf_tu (k + 1) w h G = cf_mi (if k % 2 = 1 then w else h) (cf_tr (cf_tu k w h G))
  | 0, w, h, G => rfl
  | k + 1, w, h, G => by
    show cf_tu (k + 1) h w (cf_mi h (cf_tr G)) = _
    rw [cf_tu_s k h w]
    show cf_mi (if k % 2 = 1 then h else w) (cf_tr (cf_tu (k + 1) w h G)) = _
    rcases Nat.mod_two_eq_zero_or_one k with e | e
    · rw [if_neg (by omega), if_pos (by omega)]
    · rw [if_pos e, if_neg (by omega)]
def cf_qn (q : Int32) : Nat := (fmv q (nI 4)).toNatClampNeg
theorem cf_qn_c (q : Int32) : fmv q (nI 4) = nI (cf_qn q) ∧ cf_qn q < 4 := by
  have h4 : (nI 4).toInt = 4 := nI_toInt (by omega)
  obtain ⟨c, e, hc⟩ := fmv_nat (a := q) (m := nI 4) (by rw [h4]; decide)
  rw [h4] at hc
  have e2 : cf_qn q = c := by
    unfold cf_qn
    rw [e]
    exact nI_clamp (by omega)
  rw [e2]
  exact ⟨e, by omega⟩
theorem cf_qn_m (q : Int32) : ((q - q / nI 4 * nI 4) + nI 4) - ((q - q / nI 4 * nI 4) + nI 4) / nI 4 * nI 4 = nI (cf_qn q) := by
  have h4 : (nI 4).toInt = 4 := nI_toInt (by omega)
  rw [← (cf_qn_c q).1]
  have r := rem_toInt q (nI 4)
  rw [h4] at r
  have f : fmv q (nI 4) = fmOf (q - q / nI 4 * nI 4) (nI 4) := rfl
  rw [f]
  generalize q - q / nI 4 * nI 4 = t at r
  have b := tmod_bounds (a := q.toInt) (M := 4) (by decide)
  have a4 : (t + nI 4).toInt = t.toInt + 4 := by
    rw [Int32.toInt_add, h4, Int.bmod_def]
    omega
  have r2 := rem_toInt (t + nI 4) (nI 4)
  rw [h4, a4] at r2
  apply Int32.toInt_inj.mp
  rw [r2]
  unfold fmOf
  by_cases g : 0 ≤ t
  · rw [if_pos g]
    rw [Int32.le_iff_toInt_le, Int32.toInt_zero] at g
    rw [Int.tmod_eq_emod_of_nonneg (by omega)]
    omega
  · rw [if_neg g, a4]
    rw [Int32.le_iff_toInt_le, Int32.toInt_zero] at g
    rw [Int.tmod_eq_emod_of_nonneg (by omega)]
    omega
theorem cf_par {α : Type} (k : Nat) (a b : α) : (if (k + 1) % 2 = 1 then a else b) = (if k % 2 = 1 then b else a) := by
  rcases Nat.mod_two_eq_zero_or_one k with e | e
  · rw [if_pos (by omega), if_neg (by omega)]
  · rw [if_neg (by omega), if_pos e]
theorem cf_fo_1 {S : Type} (st : S → Nat → S) (n : Nat) (a : S) : cf_fo st (n + 1) a = st (cf_fo st n a) n := rfl
theorem cf_a0 (a : Int32) : a + nI 0 = a := by
  rw [nI_0]
  exact Int32.add_zero a
theorem cf_ifp {c : Prop} [Decidable c] {a : Int32} (h : c) : a + nI 0 = if c then a else a + 1 := by rw [if_pos h]; exact cf_a0 a
theorem cf_ifn {c : Prop} [Decidable c] {a : Int32} (h : ¬ c) : a + nI 1 = if c then a else a + 1 := by rw [if_neg h]; rfl
end
section
/-! fill: the class's ints and the model's longs -/
def cf_u (x : Int64) : Nat := x.toUInt64.toNat
theorem cf_u_lt (x : Int64) : cf_u x < 18446744073709551616 := x.toUInt64.toNat_lt
theorem cf_u_inj {x y : Int64} (h : cf_u x = cf_u y) : x = y := congrArg UInt64.toInt64 (UInt64.toNat_inj.mp h)
theorem cf_u_add (x y : Int64) : cf_u (x + y) = (cf_u x + cf_u y) % 18446744073709551616 := by
  show (x.toUInt64 + y.toUInt64).toNat = _
  exact UInt64.toNat_add _ _
theorem cf_u_mul (x y : Int64) : cf_u (x * y) = (cf_u x * cf_u y) % 18446744073709551616 := by
  show (x.toUInt64 * y.toUInt64).toNat = _
  exact UInt64.toNat_mul _ _
theorem cf_u_lo (x : Int64) : cf_u (x &&& 4294967295) = cf_u x % 4294967296 := by
  show (x.toUInt64 &&& 4294967295).toNat = _
  rw [UInt64.toNat_and]
  exact Nat.and_two_pow_sub_one_eq_mod _ 32
theorem cf_u_lN {n : Nat} (h : n < 18446744073709551616) : cf_u (lN n) = n := by
  show (BitVec.ofNat 64 n).toNat = n
  rw [BitVec.toNat_ofNat]
  exact Nat.mod_eq_of_lt h
theorem cf_u_i (x : Int32) : cf_u x.toInt64 % 4294967296 = x.toBitVec.toNat := by
  have h : x.toInt64.toInt32 = x := Int32.toInt32_toInt64 x
  have h2 : x.toInt64.toInt32.toBitVec.toNat = x.toInt64.toBitVec.toNat % 4294967296 := by
    show (x.toInt64.toBitVec.signExtend 32).toNat = _
    rw [BitVec.signExtend_eq_setWidth_of_le _ (by omega), BitVec.toNat_setWidth]
  rw [h] at h2
  exact h2.symm
/-- the number behind a seed and a place -/
def cf_fn (seed : Int32) (k : Nat) : Nat := ((seed.toBitVec.toNat + k * 40503) % 4294967296 * 2654435761) % 4294967296
theorem cf_fn_lt (seed : Int32) (k : Nat) : cf_fn seed k < 4294967296 := Nat.mod_lt _ (by decide)
theorem cf_fnL (seed : Int32) {k : Nat} (hk : k < 4096) : ((seed.toInt64 + (nI k).toInt64 * 40503) &&& 4294967295) * 2654435761 &&& 4294967295 = lN (cf_fn seed k) := by
  apply cf_u_inj
  rw [cf_u_lN (by have := cf_fn_lt seed k; omega), cf_u_lo, cf_u_mul, cf_u_lo, cf_u_add, cf_u_mul]
  have e1 : cf_u (2654435761 : Int64) = 2654435761 := by decide +kernel
  have e2 : cf_u (40503 : Int64) = 40503 := by decide +kernel
  have e3 : cf_u (nI k).toInt64 = k := by
    rw [nI_l (by omega)]
    exact cf_u_lN (by omega)
  have e4 := cf_u_i seed
  rw [e1, e2, e3]
  unfold cf_fn
  rw [← e4]
  have b1 : k * 40503 % 18446744073709551616 = k * 40503 := Nat.mod_eq_of_lt (by omega)
  rw [b1]
  have e5 : (cf_u seed.toInt64 + k * 40503) % 18446744073709551616 % 4294967296 = (cf_u seed.toInt64 % 4294967296 + k * 40503) % 4294967296 := by omega
  rw [e5]
  generalize (cf_u seed.toInt64 % 4294967296 + k * 40503) % 4294967296 = z
  rw [Nat.mod_mod_of_dvd]
  decide
theorem cf_fnI (seed : Int32) (k : Nat) : ((seed + nI k * nI 40503) * (-1640531535)).toBitVec.toNat = cf_fn seed k := by
  have e1 : (-1640531535 : Int32).toBitVec.toNat = 2654435761 := by decide +kernel
  show ((seed.toBitVec + (nI k).toBitVec * (nI 40503).toBitVec) * (-1640531535 : Int32).toBitVec).toNat = _
  rw [BitVec.toNat_mul, e1, BitVec.toNat_add, BitVec.toNat_mul]
  have e2 : (nI k).toBitVec.toNat = k % 4294967296 := BitVec.toNat_ofNat _ _
  have e3 : (nI 40503).toBitVec.toNat = 40503 := by decide +kernel
  rw [e2, e3]
  unfold cf_fn
  show (seed.toBitVec.toNat + k % 4294967296 * 40503 % 4294967296) % 4294967296 * 2654435761 % 4294967296 = _
  have e4 : (seed.toBitVec.toNat + k % 4294967296 * 40503 % 4294967296) % 4294967296 = (seed.toBitVec.toNat + k * 40503) % 4294967296 := by omega
  rw [e4]
theorem cf_fil_n (seed : Int32) (k : Nat) : cf_fil seed k = nI (cf_fn seed k / 1048576 % 2047) - nI 1023 := by
  unfold cf_fil
  have e : (((seed + nI k * nI 40503) * (-1640531535)).toUInt32 >>> ((nI 20).toUInt32 &&& Int32.toUInt32 31)).toInt32 = nI (cf_fn seed k / 1048576) := by
    apply Int32.toBitVec_inj.mp
    apply BitVec.eq_of_toNat_eq
    rw [pk_ushr _ _ 20 (by decide +kernel), cf_fnI]
    have := cf_fn_lt seed k
    rw [show (nI (cf_fn seed k / 1048576)).toBitVec.toNat = (cf_fn seed k / 1048576) % 4294967296 from BitVec.toNat_ofNat _ _]
    omega
  rw [e]
  have := cf_fn_lt seed k
  rw [pk_rem (by omega) (by omega) (by omega)]
theorem cf_sh20 {n : Nat} (h : n < 4294967296) : lN n >>> ((nI 20).toInt64 &&& 63) = lN (n / 1048576) := by
  have hs : (((nI 20).toInt64 &&& 63).toBitVec.smod 64).toNat = 20 := by decide +kernel
  apply Int64.toInt_inj.mp
  show ((lN n).toBitVec.sshiftRight (((nI 20).toInt64 &&& 63).toBitVec.smod 64).toNat).toInt = _
  rw [hs, BitVec.toInt_sshiftRight]
  show (lN n).toInt >>> 20 = _
  rw [pk_lT (by omega), pk_lT (by omega), Int.shiftRight_eq_div_pow]
  omega
theorem cf_fiL_eq (seed : Int32) {k : Nat} (hk : k < 4096) : ((((seed.toInt64 + (nI k).toInt64 * 40503) &&& 4294967295) * 2654435761 &&& 4294967295) >>> ((nI 20).toInt64 &&& 63) - (((seed.toInt64 + (nI k).toInt64 * 40503) &&& 4294967295) * 2654435761 &&& 4294967295) >>> ((nI 20).toInt64 &&& 63) / 2047 * 2047).toInt32 - nI 1023 = cf_fil seed k := by
  have hN := cf_fn_lt seed k
  rw [cf_fnL seed hk, cf_sh20 hN, cf_fil_n]
  have e : lN (cf_fn seed k / 1048576) - lN (cf_fn seed k / 1048576) / 2047 * 2047 = lN (cf_fn seed k / 1048576 % 2047) := pk_lRem (b := 2047) (by omega) (by omega) (by omega)
  rw [e, lN_i]
theorem cf_m16 (x : Int32) : (x &&& nI 65535).toInt64 = x.toInt64 &&& 65535 := by
  apply cf_u_inj
  have a : cf_u (x.toInt64 &&& 65535) = cf_u x.toInt64 % 65536 := by
    show (x.toInt64.toUInt64 &&& 65535).toNat = _
    rw [UInt64.toNat_and]
    exact Nat.and_two_pow_sub_one_eq_mod _ 16
  have b : x &&& nI 65535 = nI (x.toBitVec.toNat % 65536) := pk_and x 16 (by decide +kernel)
  rw [a, b, nI_l (by omega), cf_u_lN (by omega), ← cf_u_i x]
  omega
theorem cf_su_c (w h : Nat) (f : Nat → Int32) (j : Nat) : cf_fo (fun (a : Int64) y => cf_fo (fun (a : Int64) x => a + (f (64 * (8 * y + x) + j)).toInt64 * (nI (1 + x + 8 * y)).toInt64) w a) h 0 = cf_su w h (cf_V f) j := by
  unfold cf_su
  refine cf_fo_congr h (fun a y _ => cf_fo_congr w (fun a x _ => ?_))
  rw [Int64.mul_comm]
  rfl
/-! floorMod by 4, as the library's code goes -/
theorem cf_x4 (q : Int32) : (q ^^^ nI 4).toInt < 0 ↔ q.toInt < 0 := by
  have h1 : (q ^^^ nI 4).toBitVec.msb = q.toBitVec.msb := by
    show (q.toBitVec ^^^ (nI 4).toBitVec).msb = _
    rw [BitVec.msb_xor]
    have : (nI 4).toBitVec.msb = false := by decide +kernel
    rw [this]
    simp
  rw [BitVec.msb_eq_toInt, BitVec.msb_eq_toInt] at h1
  have h2 : decide ((q ^^^ nI 4).toInt < 0) = decide (q.toInt < 0) := h1
  exact decide_eq_decide.mp h2
theorem cf_fm_m (q : Int32) : (q - q / nI 4 * nI 4).toInt = q.toInt.tmod 4 := by
  have r := rem_toInt q (nI 4)
  rw [nI_toInt (by omega)] at r
  exact r
theorem cf_fmA {q : Int32} (h : 0 ≤ q ^^^ nI 4) : q - q / nI 4 * nI 4 = nI (cf_qn q) := by
  rw [← (cf_qn_c q).1]
  show _ = fmOf (q - q / nI 4 * nI 4) (nI 4)
  unfold fmOf
  rw [if_pos]
  rw [Int32.le_iff_toInt_le, Int32.toInt_zero] at *
  rw [cf_fm_m]
  have : ¬ q.toInt < 0 := fun a => by have := (cf_x4 q).mpr a; omega
  exact Int.tmod_nonneg 4 (by omega)
theorem cf_fmB {q : Int32} (h : q - q / nI 4 * nI 4 = 0) : q - q / nI 4 * nI 4 = nI (cf_qn q) := by
  rw [← (cf_qn_c q).1]
  show _ = fmOf (q - q / nI 4 * nI 4) (nI 4)
  rw [h]
  rfl
theorem cf_fmC {q : Int32} (h : ¬ 0 ≤ q ^^^ nI 4) (h2 : ¬ q - q / nI 4 * nI 4 = 0) : q - q / nI 4 * nI 4 + nI 4 = nI (cf_qn q) := by
  rw [← (cf_qn_c q).1]
  show _ = fmOf (q - q / nI 4 * nI 4) (nI 4)
  unfold fmOf
  rw [if_neg]
  intro a
  apply h2
  rw [Int32.le_iff_toInt_le, Int32.toInt_zero] at *
  have e := cf_fm_m q
  have hn : q.toInt < 0 := (cf_x4 q).mp (by omega)
  have : q.toInt.tmod 4 ≤ 0 := by
    have e1 : q.toInt.tmod 4 = -((-q.toInt).tmod 4) := by rw [Int.neg_tmod, Int.neg_neg]
    rw [e1]
    have := Int.tmod_nonneg (a := -q.toInt) 4 (by omega)
    omega
  apply Int32.toInt_inj.mp
  rw [Int32.toInt_zero]
  omega
end
section
/-! what the throwing methods take of the tables beside their words: no word that a call keeps by itself -/
def cf_BIO : List Cond := [.declares (Bundle.initS "java/lang/RuntimeException"), .declares (Bundle.initS "java/lang/Exception"), .declares (Bundle.initS Bundle.tN), .castable "java/lang/IndexOutOfBoundsException" "java/lang/IndexOutOfBoundsException"]
def cf_BIA : List Cond := [.declares (Bundle.initS "java/lang/RuntimeException"), .declares (Bundle.initS "java/lang/Exception"), .declares (Bundle.initS Bundle.tN), .castable "java/lang/IllegalArgumentException" "java/lang/IllegalArgumentException"]
def cf_Xf (sa1 sa2 sa3 : Nat) (U : State) : Prop :=
  (va_Nw (.declares (Bundle.initS "java/lang/RuntimeException")) U ∧ va_Nw (.declares (Bundle.initS "java/lang/Exception")) U ∧ va_Nw (.declares (Bundle.initS Bundle.tN)) U ∧ va_Nw (.castable "java/lang/IndexOutOfBoundsException" "java/lang/IndexOutOfBoundsException") U ∧ va_Nw (.castable "java/lang/IllegalArgumentException" "java/lang/IllegalArgumentException") U) ∧
  vk_R RX0 43 "no such block or place" sa1 U ∧ vk_R RX0 50 "a coefficient is -32767 .. 32767" sa2 U ∧ vk_R RX0 98 "no such place" sa3 U
theorem cf_Xf.bio {sa1 sa2 sa3 : Nat} {s : State} (h : cf_Xf sa1 sa2 sa3 s) (args : Array Value) : ∀ w ∈ cf_BIO, w.before args s = true :=
  vx_c (va_Nw.use rfl h.1.1) (vx_c (va_Nw.use rfl h.1.2.1) (vx_c (va_Nw.use rfl h.1.2.2.1) (vx_c (va_Nw.use rfl h.1.2.2.2.1) vx_n)))
theorem cf_Xf.bia {sa1 sa2 sa3 : Nat} {s : State} (h : cf_Xf sa1 sa2 sa3 s) (args : Array Value) : ∀ w ∈ cf_BIA, w.before args s = true :=
  vx_c (va_Nw.use rfl h.1.1) (vx_c (va_Nw.use rfl h.1.2.1) (vx_c (va_Nw.use rfl h.1.2.2.1) (vx_c (va_Nw.use rfl h.1.2.2.2.2) vx_n)))
theorem cf_Xf.same {sa1 sa2 sa3 : Nat} {u U : State} (hv : U.vm = u.vm) (h : cf_Xf sa1 sa2 sa3 u) : cf_Xf sa1 sa2 sa3 U :=
  ⟨⟨va_Nw.same rfl hv.symm h.1.1, va_Nw.same rfl hv.symm h.1.2.1, va_Nw.same rfl hv.symm h.1.2.2.1, va_Nw.same rfl hv.symm h.1.2.2.2.1, va_Nw.same rfl hv.symm h.1.2.2.2.2⟩, vk_R.same hv h.2.1, vk_R.same hv h.2.2.1, vk_R.same hv h.2.2.2⟩
theorem cf_Xf.warm {sa1 sa2 sa3 : Nat} {s U : State} (hW : s.WarmedH U.vm) (h : cf_Xf sa1 sa2 sa3 s) : cf_Xf sa1 sa2 sa3 U :=
  ⟨⟨va_Nw.warmD hW h.1.1, va_Nw.warmD hW h.1.2.1, va_Nw.warmD hW h.1.2.2.1, va_Nw.warmC hW h.1.2.2.2.1, va_Nw.warmC hW h.1.2.2.2.2⟩, vk_R.warm hW h.2.1, vk_R.warm hW h.2.2.1, vk_R.warm hW h.2.2.2⟩
def cf_Zf (A : Nat → Prop) (U : State) (H : Heap) : Prop := vx_Zq Bundle.tN "UNASSIGNED_STACK" Bundle.steD A U H ∧ vx_Zq Bundle.tN "SUPPRESSED_SENTINEL" Bundle.listD A U H
theorem cf_Zf.moved {A : Nat → Prop} {u U : State} {H : Heap} (hvm : u.vm.Alike U.vm) (h : cf_Zf A u H) : cf_Zf A U H := ⟨vx_Zq.moved hvm h.1, vx_Zq.moved hvm h.2⟩
theorem cf_Zf.kept {A : Nat → Prop} {U : State} {H H1 : Heap} (h : cf_Zf A U H) (hq : ∀ a : Nat, a < H.size → ¬ A a → H1[a]? = H[a]?) : cf_Zf A U H1 := ⟨vx_Zq.kept h.1 hq, vx_Zq.kept h.2 hq⟩
theorem cf_Zf.narrow {A B : Nat → Prop} {U : State} {H : Heap} (h : cf_Zf A U H) (hAB : ∀ q, B q → A q) : cf_Zf B U H := ⟨vx_Zq.narrow h.1 hAB, vx_Zq.narrow h.2 hAB⟩
end
section
set_option maxHeartbeats 4000000 in
set_option maxRecDepth 100000 in
/-- J9_floorMod_7cf53 -/
theorem kJ9_floorMod_7cf53 (l : Launch) (q : Int32) : Met l yJ9_floorMod_7cf53 wsJ9_floorMod_7cf53 ({ frames := 0, cells := 0, slots := 0, locals := 0 }) (va_Pc [.int q, .int (nI 4)] (fun _ => True)) (vp_Si (fun r : Int32 => r = nI (cf_qn q))) 0 0 (fun _ => False) := by
  refine va_MetF (cc := cJ9_floorMod_7cf53) (maxL := 3) (ret := (some .int)) (by decide +kernel) rfl ?_
  intro p e s m args below meth c s₁ B hml hv
  obtain ⟨rfl, -⟩ := hv
  have hx := B.exec
  have hb := B.bytes
  have hr := B.returns
  have hts := atoms_spec (ws := wsJ9_floorMod_7cf53) B.pre
  have hown : s.vm.findClass RJ9 = some m.cls := findClass_of_methodNamed B.named
  have hlocks := B.notSynchronized
  have hl := lv_entry ([.int q, .int (nI 4)]) (n := 3) (Nat.le_of_ble_eq_true rfl)
  rw [lg_entry_eq]
  generalize (lg_sl ([.int q, .int (nI 4)]) ++ List.replicate (3 - (lg_sl ([.int q, .int (nI 4)])).length) Slot.unset).toArray = ls at hl ⊢
  have hl : lv_has ls 3 [(0, .int q), (1, .int (nI 4))] := hl
  refine lv_iload_n hx hb dJ9_floorMod_7cf53_0 rfl (lv_at hl 0 rfl) ?_
  refine lv_iload_n hx hb dJ9_floorMod_7cf53_1 rfl (lv_at hl 1 rfl) ?_
  refine lv_irem hx hb dJ9_floorMod_7cf53_2 (nI_ne0 (by omega) (by omega)) ?_
  refine lv_istore_n (lv' := [(2, .int (q - q / (nI 4) * (nI 4))), (0, .int q), (1, .int (nI 4))]) hx hb dJ9_floorMod_7cf53_3 rfl hl (by decide) rfl (fun ls hl => ?_)
  refine lv_iload_n hx hb dJ9_floorMod_7cf53_4 rfl (lv_at hl 1 rfl) ?_
  refine lv_iload_n hx hb dJ9_floorMod_7cf53_5 rfl (lv_at hl 2 rfl) ?_
  refine lv_ixor hx hb dJ9_floorMod_7cf53_6 ?_
  refine lv_if_ge (tgt := 18) hx hb dJ9_floorMod_7cf53_7 (by decide) (fun c7 => ?_) (fun c7 => ?_)
  · skip
    refine lv_iload_n hx hb dJ9_floorMod_7cf53_18 rfl (lv_at hl 0 rfl) ?_
    exact W.iret hx hb hr (fun t ht hW => ⟨_, rfl, (by first | exact cf_fmA c7 | exact cf_fmB c11 | exact cf_fmC c7 c11), ht⟩) (fun q h => by cases h) dJ9_floorMod_7cf53_19
  · skip
    refine lv_iload_n hx hb dJ9_floorMod_7cf53_10 rfl (lv_at hl 0 rfl) ?_
    refine lv_if_eq (tgt := 18) hx hb dJ9_floorMod_7cf53_11 (by decide) (fun c11 => ?_) (fun c11 => ?_)
    · skip
      refine lv_iload_n hx hb dJ9_floorMod_7cf53_18 rfl (lv_at hl 0 rfl) ?_
      exact W.iret hx hb hr (fun t ht hW => ⟨_, rfl, (by first | exact cf_fmA c7 | exact cf_fmB c11 | exact cf_fmC c7 c11), ht⟩) (fun q h => by cases h) dJ9_floorMod_7cf53_19
    · skip
      refine lv_iload_n hx hb dJ9_floorMod_7cf53_14 rfl (lv_at hl 0 rfl) ?_
      refine lv_iload_n hx hb dJ9_floorMod_7cf53_15 rfl (lv_at hl 2 rfl) ?_
      refine lv_iadd hx hb dJ9_floorMod_7cf53_16 ?_
      exact W.iret hx hb hr (fun t ht hW => ⟨_, rfl, (by first | exact cf_fmA c7 | exact cf_fmB c11 | exact cf_fmC c7 c11), ht⟩) (fun q h => by cases h) dJ9_floorMod_7cf53_17
set_option maxHeartbeats 4000000 in
set_option maxRecDepth 100000 in
/-- X0_nearestSize -/
theorem kX0_nearestSize (l : Launch) (b : Int32) : Met l yX0_nearestSize wsX0_nearestSize ({ frames := 1, cells := 0, slots := 0, locals := 21 }) (va_Pc [.int b] (fun _ => True)) (vp_Si (fun r : Int32 => r = cf_near b)) 0 0 (fun _ => False) := by
  refine Met.ofW (cc := cX0_nearestSize) (maxL := 1) (ret := (some .int)) (by decide) rfl ?_
  intro p e s m args below meth c s₁ B hml hv
  obtain ⟨rfl, -⟩ := hv
  have hx := B.exec
  have hb := B.bytes
  have hr := B.returns
  have hts := atoms_spec (ws := wsX0_nearestSize) B.pre
  have hown : s.vm.findClass RX0 = some m.cls := findClass_of_methodNamed B.named
  have hlocks := B.notSynchronized
  have hl := lv_entry ([.int b]) (n := 1) (Nat.le_of_ble_eq_true rfl)
  rw [lg_entry_eq]
  generalize (lg_sl ([.int b]) ++ List.replicate (1 - (lg_sl ([.int b])).length) Slot.unset).toArray = ls at hl ⊢
  have hl : lv_has ls 1 [(0, .int b)] := hl
  refine lv_iconst (v := nI 1) hx hb dX0_nearestSize_0 (by decide +kernel) ?_
  refine lv_bipush (v := nI 8) hx hb dX0_nearestSize_1 (by decide +kernel) ?_
  refine lv_iload_n hx hb dX0_nearestSize_3 rfl (lv_at hl 0 rfl) ?_
  refine va_mmin hx hb (hml.trans hl.1.symm) hown (hts (.methodLink RX0 107 Lib.Math.min.name) (by decide +kernel)) (hts (.static Lib.Math.min.name) (by decide +kernel)) (hts (.initialized "java/lang/Math") (by decide +kernel)) (hts (.code Lib.Math.min.name Lib.Math.min.code 2 (some .int)) (by first | exact List.mem_of_getElem? (i := 4) rfl | decide +kernel)) (Nat.le_of_ble_eq_true rfl) (Nat.le_of_ble_eq_true rfl) (Nat.le_of_ble_eq_true rfl) (Nat.le_of_ble_eq_true rfl) dX0_nearestSize_4 ?_
  refine va_mmax hx hb (hml.trans hl.1.symm) hown (hts (.methodLink RX0 61 Lib.Math.max.name) (by decide +kernel)) (hts (.static Lib.Math.max.name) (by decide +kernel)) (hts (.initialized "java/lang/Math") (by decide +kernel)) (hts (.code Lib.Math.max.name Lib.Math.max.code 2 (some .int)) (by first | exact List.mem_of_getElem? (i := 7) rfl | decide +kernel)) (Nat.le_of_ble_eq_true rfl) (Nat.le_of_ble_eq_true rfl) (Nat.le_of_ble_eq_true rfl) (Nat.le_of_ble_eq_true rfl) dX0_nearestSize_7 ?_
  exact W.iret hx hb hr (fun t ht hW => ⟨_, rfl, (cf_near_c b), ht⟩) (fun q h => by cases h) dX0_nearestSize_10
set_option maxHeartbeats 4000000 in
set_option maxRecDepth 100000 in
/-- X0_isPlace -/
theorem kX0_isPlace (l : Launch) (q : Int32) : Met l yX0_isPlace wsX0_isPlace ({ frames := 0, cells := 0, slots := 0, locals := 0 }) (va_Pc [.int q] (fun _ => True)) (vp_Si (fun r : Int32 => r = cf_ip q)) 0 0 (fun _ => False) := by
  refine Met.ofW (cc := cX0_isPlace) (maxL := 1) (ret := (some .boolean)) (by decide) rfl ?_
  intro p e s m args below meth c s₁ B hml hv
  obtain ⟨rfl, -⟩ := hv
  have hx := B.exec
  have hb := B.bytes
  have hr := B.returns
  have hts := atoms_spec (ws := wsX0_isPlace) B.pre
  have hown : s.vm.findClass RX0 = some m.cls := findClass_of_methodNamed B.named
  have hlocks := B.notSynchronized
  have hl := lv_entry ([.int q]) (n := 1) (Nat.le_of_ble_eq_true rfl)
  rw [lg_entry_eq]
  generalize (lg_sl ([.int q]) ++ List.replicate (1 - (lg_sl ([.int q])).length) Slot.unset).toArray = ls at hl ⊢
  have hl : lv_has ls 1 [(0, .int q)] := hl
  refine lv_iload_n hx hb dX0_isPlace_0 rfl (lv_at hl 0 rfl) ?_
  refine lv_if_lt (tgt := 14) hx hb dX0_isPlace_1 (by decide) (fun c1 => ?_) (fun c1 => ?_)
  · skip
    refine lv_iconst (v := nI 0) hx hb dX0_isPlace_14 (by decide +kernel) ?_
    exact W.zret (ty := .boolean) hx hb hr rfl (fun t ht hW => ⟨_, rfl, (by unfold cf_ip; (first | rw [if_pos c1] | rw [if_neg c1] | rw [if_neg (cf_nlt c1)] | rw [if_pos (cf_nle c1)] | skip)), ht⟩) (fun q h => by cases h) dX0_isPlace_15
  · skip
    refine lv_iload_n hx hb dX0_isPlace_4 rfl (lv_at hl 0 rfl) ?_
    refine lv_bipush (v := nI 64) hx hb dX0_isPlace_5 (by decide +kernel) ?_
    refine lv_icmp_ge (tgt := 14) hx hb dX0_isPlace_7 (by decide) (fun c7 => ?_) (fun c7 => ?_)
    · skip
      refine lv_iconst (v := nI 0) hx hb dX0_isPlace_14 (by decide +kernel) ?_
      exact W.zret (ty := .boolean) hx hb hr rfl (fun t ht hW => ⟨_, rfl, (by unfold cf_ip; (first | rw [if_pos c1] | rw [if_neg c1] | rw [if_neg (cf_nlt c1)] | rw [if_pos (cf_nle c1)] | skip); (first | rw [if_pos c7] | rw [if_neg c7] | rw [if_neg (cf_nlt c7)] | rw [if_pos (cf_nle c7)] | skip)), ht⟩) (fun q h => by cases h) dX0_isPlace_15
    · skip
      refine lv_iconst (v := nI 1) hx hb dX0_isPlace_10 (by decide +kernel) ?_
      refine lv_goto (tgt := 15) hx hb dX0_isPlace_11 (by decide) ?_
      exact W.zret (ty := .boolean) hx hb hr rfl (fun t ht hW => ⟨_, rfl, (by unfold cf_ip; (first | rw [if_pos c1] | rw [if_neg c1] | rw [if_neg (cf_nlt c1)] | rw [if_pos (cf_nle c1)] | skip); (first | rw [if_pos c7] | rw [if_neg c7] | rw [if_neg (cf_nlt c7)] | rw [if_pos (cf_nle c7)] | skip)), ht⟩) (fun q h => by cases h) dX0_isPlace_15
set_option maxHeartbeats 4000000 in
set_option maxRecDepth 100000 in
/-- X0_blockStart -/
theorem kX0_blockStart (l : Launch) (x z : Nat) : Met l yX0_blockStart wsX0_blockStart ({ frames := 0, cells := 0, slots := 0, locals := 0 }) (va_Pc [.int (nI x), .int (nI z)] (fun _ => True)) (vp_Si (fun r : Int32 => r = nI (64 * (8 * z + x)))) 0 0 (fun _ => False) := by
  refine Met.ofW (cc := cX0_blockStart) (maxL := 2) (ret := (some .int)) (by decide) rfl ?_
  intro p e s m args below meth c s₁ B hml hv
  obtain ⟨rfl, -⟩ := hv
  have hx := B.exec
  have hb := B.bytes
  have hr := B.returns
  have hts := atoms_spec (ws := wsX0_blockStart) B.pre
  have hown : s.vm.findClass RX0 = some m.cls := findClass_of_methodNamed B.named
  have hlocks := B.notSynchronized
  have hl := lv_entry ([.int (nI x), .int (nI z)]) (n := 2) (Nat.le_of_ble_eq_true rfl)
  rw [lg_entry_eq]
  generalize (lg_sl ([.int (nI x), .int (nI z)]) ++ List.replicate (2 - (lg_sl ([.int (nI x), .int (nI z)])).length) Slot.unset).toArray = ls at hl ⊢
  have hl : lv_has ls 2 [(0, .int (nI x)), (1, .int (nI z))] := hl
  refine lv_bipush (v := nI 64) hx hb dX0_blockStart_0 (by decide +kernel) ?_
  refine lv_bipush (v := nI 8) hx hb dX0_blockStart_2 (by decide +kernel) ?_
  refine lv_iload_n hx hb dX0_blockStart_4 rfl (lv_at hl 1 rfl) ?_
  refine lv_imul hx hb dX0_blockStart_5 ?_
  refine cf_top (pk_mul _ _) ?_
  refine lv_iload_n hx hb dX0_blockStart_6 rfl (lv_at hl 0 rfl) ?_
  refine lv_iadd hx hb dX0_blockStart_7 ?_
  refine cf_top (nI_add _ _) ?_
  refine lv_imul hx hb dX0_blockStart_8 ?_
  refine cf_top (pk_mul _ _) ?_
  exact W.iret hx hb hr (fun t ht hW => ⟨_, rfl, rfl, ht⟩) (fun q h => by cases h) dX0_blockStart_9
set_option maxHeartbeats 4000000 in
set_option maxRecDepth 100000 in
/-- X0_isBlock -/
theorem kX0_isBlock (l : Launch) (dC : Nat → ClassId) (dI : Nat → Nat → Nat) (h0 a1 a2 : Nat) (cA cB : ClassId) (f g : Nat → Int32) (w h kw kh : Nat) (bx bz : Int32) : Met l yX0_isBlock wsX0_isBlock ({ frames := 0, cells := 0, slots := 0, locals := 0 }) (va_Pc [.ref h0, .int bx, .int bz] (fun U => va_P (dC, dI) vwCm [(h0, .inr (0, [.ref a1, .ref a2, .int (nI w), .int (nI h), .int (nI kw), .int (nI kh)])), (a1, .inl (cA, 4096, .inl f)), (a2, .inl (cB, 4096, .inl g))] U.heap ∧ va_K (dC, dI) vwCm [(cA, .int), (cB, .int)] U)) (vp_Si (fun r : Int32 => r = cf_ib w h bx bz)) 0 0 (fun _ => False) := by
  refine Met.ofW (cc := cX0_isBlock) (maxL := 3) (ret := (some .boolean)) (by decide) rfl ?_
  intro p e s m args below meth c s₁ B hml hv
  obtain ⟨rfl, hP, hK⟩ := hv
  have hx := B.exec
  have hb := B.bytes
  have hr := B.returns
  have hts := atoms_spec (ws := wsX0_isBlock) B.pre
  have hown : s.vm.findClass RX0 = some m.cls := findClass_of_methodNamed B.named
  have hlocks := B.notSynchronized
  have hl := lv_entry ([.ref h0, .int bx, .int bz]) (n := 3) (Nat.le_of_ble_eq_true rfl)
  rw [lg_entry_eq]
  generalize (lg_sl ([.ref h0, .int bx, .int bz]) ++ List.replicate (3 - (lg_sl ([.ref h0, .int bx, .int bz])).length) Slot.unset).toArray = ls at hl ⊢
  have hl : lv_has ls 3 [(0, .ref h0), (1, .int bx), (2, .int bz)] := hl
  refine lv_iload_n hx hb dX0_isBlock_0 rfl (lv_at hl 1 rfl) ?_
  refine lv_if_lt (tgt := 28) hx hb dX0_isBlock_1 (by decide) (fun c1 => ?_) (fun c1 => ?_)
  · skip
    refine lv_iconst (v := nI 0) hx hb dX0_isBlock_28 (by decide +kernel) ?_
    exact W.zret (ty := .boolean) hx hb hr rfl (fun t ht hW => ⟨_, rfl, (by unfold cf_ib; (first | rw [if_pos c1] | rw [if_neg c1] | rw [if_neg (cf_nlt c1)] | rw [if_pos (cf_nle c1)] | skip)), ht⟩) (fun q h => by cases h) dX0_isBlock_29
  · skip
    refine lv_iload_n hx hb dX0_isBlock_4 rfl (lv_at hl 1 rfl) ?_
    refine lv_aload_n hx hb dX0_isBlock_5 rfl (lv_at hl 0 rfl) ?_
    refine va_get (D := (dC, dI)) (ci := 0) (v := .int (nI w)) (C := RX0) (T := TX0) (N := 6) hx hb hts (by decide +kernel) hown hK hP 0 rfl rfl 2 (by decide) (hts (.fieldLink RX0 13 "CoefTurns" "width" "I") (by decide +kernel)) (fun _ h9 => h9) rfl dX0_isBlock_6 ?_
    refine lv_icmp_ge (tgt := 28) hx hb dX0_isBlock_9 (by decide) (fun c9 => ?_) (fun c9 => ?_)
    · skip
      refine lv_iconst (v := nI 0) hx hb dX0_isBlock_28 (by decide +kernel) ?_
      exact W.zret (ty := .boolean) hx hb hr rfl (fun t ht hW => ⟨_, rfl, (by unfold cf_ib; (first | rw [if_pos c1] | rw [if_neg c1] | rw [if_neg (cf_nlt c1)] | rw [if_pos (cf_nle c1)] | skip); (first | rw [if_pos c9] | rw [if_neg c9] | rw [if_neg (cf_nlt c9)] | rw [if_pos (cf_nle c9)] | skip)), ht⟩) (fun q h => by cases h) dX0_isBlock_29
    · skip
      refine lv_iload_n hx hb dX0_isBlock_12 rfl (lv_at hl 2 rfl) ?_
      refine lv_if_lt (tgt := 28) hx hb dX0_isBlock_13 (by decide) (fun c13 => ?_) (fun c13 => ?_)
      · skip
        refine lv_iconst (v := nI 0) hx hb dX0_isBlock_28 (by decide +kernel) ?_
        exact W.zret (ty := .boolean) hx hb hr rfl (fun t ht hW => ⟨_, rfl, (by unfold cf_ib; (first | rw [if_pos c1] | rw [if_neg c1] | rw [if_neg (cf_nlt c1)] | rw [if_pos (cf_nle c1)] | skip); (first | rw [if_pos c9] | rw [if_neg c9] | rw [if_neg (cf_nlt c9)] | rw [if_pos (cf_nle c9)] | skip); (first | rw [if_pos c13] | rw [if_neg c13] | rw [if_neg (cf_nlt c13)] | rw [if_pos (cf_nle c13)] | skip)), ht⟩) (fun q h => by cases h) dX0_isBlock_29
      · skip
        refine lv_iload_n hx hb dX0_isBlock_16 rfl (lv_at hl 2 rfl) ?_
        refine lv_aload_n hx hb dX0_isBlock_17 rfl (lv_at hl 0 rfl) ?_
        refine va_get (D := (dC, dI)) (ci := 0) (v := .int (nI h)) (C := RX0) (T := TX0) (N := 6) hx hb hts (by decide +kernel) hown hK hP 0 rfl rfl 3 (by decide) (hts (.fieldLink RX0 17 "CoefTurns" "height" "I") (by decide +kernel)) (fun _ h9 => h9) rfl dX0_isBlock_18 ?_
        refine lv_icmp_ge (tgt := 28) hx hb dX0_isBlock_21 (by decide) (fun c21 => ?_) (fun c21 => ?_)
        · skip
          refine lv_iconst (v := nI 0) hx hb dX0_isBlock_28 (by decide +kernel) ?_
          exact W.zret (ty := .boolean) hx hb hr rfl (fun t ht hW => ⟨_, rfl, (by unfold cf_ib; (first | rw [if_pos c1] | rw [if_neg c1] | rw [if_neg (cf_nlt c1)] | rw [if_pos (cf_nle c1)] | skip); (first | rw [if_pos c9] | rw [if_neg c9] | rw [if_neg (cf_nlt c9)] | rw [if_pos (cf_nle c9)] | skip); (first | rw [if_pos c13] | rw [if_neg c13] | rw [if_neg (cf_nlt c13)] | rw [if_pos (cf_nle c13)] | skip); (first | rw [if_pos c21] | rw [if_neg c21] | rw [if_neg (cf_nlt c21)] | rw [if_pos (cf_nle c21)] | skip)), ht⟩) (fun q h => by cases h) dX0_isBlock_29
        · skip
          refine lv_iconst (v := nI 1) hx hb dX0_isBlock_24 (by decide +kernel) ?_
          refine lv_goto (tgt := 29) hx hb dX0_isBlock_25 (by decide) ?_
          exact W.zret (ty := .boolean) hx hb hr rfl (fun t ht hW => ⟨_, rfl, (by unfold cf_ib; (first | rw [if_pos c1] | rw [if_neg c1] | rw [if_neg (cf_nlt c1)] | rw [if_pos (cf_nle c1)] | skip); (first | rw [if_pos c9] | rw [if_neg c9] | rw [if_neg (cf_nlt c9)] | rw [if_pos (cf_nle c9)] | skip); (first | rw [if_pos c13] | rw [if_neg c13] | rw [if_neg (cf_nlt c13)] | rw [if_pos (cf_nle c13)] | skip); (first | rw [if_pos c21] | rw [if_neg c21] | rw [if_neg (cf_nlt c21)] | rw [if_pos (cf_nle c21)] | skip)), ht⟩) (fun q h => by cases h) dX0_isBlock_29
set_option maxHeartbeats 4000000 in
set_option maxRecDepth 100000 in
/-- X0_exchangeCells -/
theorem kX0_exchangeCells (l : Launch) (dC : Nat → ClassId) (dI : Nat → Nat → Nat) (sz : Nat) (h0 a1 a2 : Nat) (cA cB : ClassId) (f g : Nat → Int32) (w h kw kh : Nat) (a b : Nat) (ha : a < 4096) (hb4 : b < 4096) : Met l yX0_exchangeCells wsX0_exchangeCells ({ frames := 0, cells := 0, slots := 0, locals := 0 }) (va_Pc [.ref h0, .int (nI a), .int (nI b)] (fun U => U.heap.size = sz ∧ va_P (dC, dI) vwCm [(h0, .inr (0, [.ref a1, .ref a2, .int (nI w), .int (nI h), .int (nI kw), .int (nI kh)])), (a1, .inl (cA, 4096, .inl f)), (a2, .inl (cB, 4096, .inl g))] U.heap ∧ va_K (dC, dI) vwCm [(cA, .int), (cB, .int)] U ∧ va_D (fun _ => True) [(h0, .inr (0, [.ref a1, .ref a2, .int (nI w), .int (nI h), .int (nI kw), .int (nI kh)])), (a1, .inl (cA, 4096, .inl f)), (a2, .inl (cB, 4096, .inl g))])) (va_Qv (fun u : Nat → Int32 => u = upd (upd f a (f b)) b (f a)) (fun (u : Nat → Int32) (t : State) => va_P (dC, dI) vwCm [(h0, .inr (0, [.ref a1, .ref a2, .int (nI w), .int (nI h), .int (nI kw), .int (nI kh)])), (a1, .inl (cA, 4096, .inl u)), (a2, .inl (cB, 4096, .inl g))] t.heap ∧ va_K (dC, dI) vwCm [(cA, .int), (cB, .int)] t ∧ va_D (va_A [(h0, .inr (0, [.ref a1, .ref a2, .int (nI w), .int (nI h), .int (nI kw), .int (nI kh)])), (a1, .inl (cA, 4096, .inl f)), (a2, .inl (cB, 4096, .inl g))] sz) [(h0, .inr (0, [.ref a1, .ref a2, .int (nI w), .int (nI h), .int (nI kw), .int (nI kh)])), (a1, .inl (cA, 4096, .inl u)), (a2, .inl (cB, 4096, .inl g))]) (va_A [(h0, .inr (0, [.ref a1, .ref a2, .int (nI w), .int (nI h), .int (nI kw), .int (nI kh)])), (a1, .inl (cA, 4096, .inl f)), (a2, .inl (cB, 4096, .inl g))] sz)) 0 0 (va_A [(h0, .inr (0, [.ref a1, .ref a2, .int (nI w), .int (nI h), .int (nI kw), .int (nI kh)])), (a1, .inl (cA, 4096, .inl f)), (a2, .inl (cB, 4096, .inl g))] sz) := by
  refine Met.ofW (cc := cX0_exchangeCells) (maxL := 4) (ret := none) (by decide) rfl ?_
  intro p e s m args below meth c s₁ B hml hv
  obtain ⟨rfl, hsz, hP, hK, hD0⟩ := hv
  have hx := B.exec
  have hb := B.bytes
  have hr := B.returns
  have hts := atoms_spec (ws := wsX0_exchangeCells) B.pre
  have hown : s.vm.findClass RX0 = some m.cls := findClass_of_methodNamed B.named
  have hlocks := B.notSynchronized
  subst hsz
  have hD := hD0.self (sz := s.heap.size)
  generalize hAe : va_A [(h0, .inr (0, [.ref a1, .ref a2, .int (nI w), .int (nI h), .int (nI kw), .int (nI kh)])), (a1, .inl (cA, 4096, .inl f)), (a2, .inl (cB, 4096, .inl g))] s.heap.size = A at hD ⊢
  have hA : ∀ q : Nat, s.heap.size ≤ q → A q := fun q h => by rw [← hAe]; exact Or.inr h
  have hS : va_S A s.heap s.heap [] := va_S.rf
  have hP : va_P (dC, dI) vwCm [(h0, .inr (0, [.ref a1, .ref a2, .int (nI w), .int (nI h), .int (nI kw), .int (nI kh)])), (a1, .inl (cA, 4096, .inl f)), (a2, .inl (cB, 4096, .inl g))] s.heap := hP
  have hl := lv_entry ([.ref h0, .int (nI a), .int (nI b)]) (n := 4) (Nat.le_of_ble_eq_true rfl)
  rw [lg_entry_eq]
  generalize (lg_sl ([.ref h0, .int (nI a), .int (nI b)]) ++ List.replicate (4 - (lg_sl ([.ref h0, .int (nI a), .int (nI b)])).length) Slot.unset).toArray = ls at hl ⊢
  have hl : lv_has ls 4 [(0, .ref h0), (1, .int (nI a)), (2, .int (nI b))] := hl
  refine lv_aload_n hx hb dX0_exchangeCells_0 rfl (lv_at hl 0 rfl) ?_
  refine va_get (D := (dC, dI)) (ci := 0) (v := .ref a1) (C := RX0) (T := TX0) (N := 6) hx hb hts (by decide +kernel) hown hK hP 0 rfl rfl 0 (by decide) (hts (.fieldLink RX0 26 "CoefTurns" "cells" "[I") (by decide +kernel)) (fun _ h9 => h9) rfl dX0_exchangeCells_1 ?_
  refine lv_iload_n hx hb dX0_exchangeCells_4 rfl (lv_at hl 1 rfl) ?_
  refine cf_iald (D := (dC, dI)) hx hb hK hP 1 0 rfl rfl (k := a) (by omega) (by decide) dX0_exchangeCells_5 ?_
  refine lv_istore_n (lv' := [(3, .int (f a)), (0, .ref h0), (1, .int (nI a)), (2, .int (nI b))]) hx hb dX0_exchangeCells_6 rfl hl (by decide) rfl (fun ls hl => ?_)
  refine lv_aload_n hx hb dX0_exchangeCells_7 rfl (lv_at hl 1 rfl) ?_
  refine va_get (D := (dC, dI)) (ci := 0) (v := .ref a1) (C := RX0) (T := TX0) (N := 6) hx hb hts (by decide +kernel) hown hK hP 0 rfl rfl 0 (by decide) (hts (.fieldLink RX0 26 "CoefTurns" "cells" "[I") (by decide +kernel)) (fun _ h9 => h9) rfl dX0_exchangeCells_8 ?_
  refine lv_iload_n hx hb dX0_exchangeCells_11 rfl (lv_at hl 2 rfl) ?_
  refine lv_aload_n hx hb dX0_exchangeCells_12 rfl (lv_at hl 1 rfl) ?_
  refine va_get (D := (dC, dI)) (ci := 0) (v := .ref a1) (C := RX0) (T := TX0) (N := 6) hx hb hts (by decide +kernel) hown hK hP 0 rfl rfl 0 (by decide) (hts (.fieldLink RX0 26 "CoefTurns" "cells" "[I") (by decide +kernel)) (fun _ h9 => h9) rfl dX0_exchangeCells_13 ?_
  refine lv_iload_n hx hb dX0_exchangeCells_16 rfl (lv_at hl 3 rfl) ?_
  refine cf_iald (D := (dC, dI)) hx hb hK hP 1 0 rfl rfl (k := b) (by omega) (by decide) dX0_exchangeCells_17 ?_
  refine cf_iast (D := (dC, dI)) hx hb hK hP hD hS 1 0 rfl rfl (k := a) (by omega) (by decide) dX0_exchangeCells_18 (fun H locs hP hD hS => ?_)
  have hP : va_P (dC, dI) vwCm [(h0, .inr (0, [.ref a1, .ref a2, .int (nI w), .int (nI h), .int (nI kw), .int (nI kh)])), (a1, .inl (cA, 4096, .inl (upd f a (f b)))), (a2, .inl (cB, 4096, .inl g))] H := hP
  have hD : va_D A [(h0, .inr (0, [.ref a1, .ref a2, .int (nI w), .int (nI h), .int (nI kw), .int (nI kh)])), (a1, .inl (cA, 4096, .inl (upd f a (f b)))), (a2, .inl (cB, 4096, .inl g))] := hD
  refine lv_aload_n hx hb dX0_exchangeCells_19 rfl (lv_at hl 1 rfl) ?_
  refine va_get (D := (dC, dI)) (ci := 0) (v := .ref a1) (C := RX0) (T := TX0) (N := 6) hx hb hts (by decide +kernel) hown hK hP 0 rfl rfl 0 (by decide) (hts (.fieldLink RX0 26 "CoefTurns" "cells" "[I") (by decide +kernel)) (fun _ h9 => h9) rfl dX0_exchangeCells_20 ?_
  refine lv_iload_n hx hb dX0_exchangeCells_23 rfl (lv_at hl 3 rfl) ?_
  refine lv_iload_n hx hb dX0_exchangeCells_24 rfl (lv_at hl 0 rfl) ?_
  refine cf_iast (D := (dC, dI)) hx hb hK hP hD hS 1 0 rfl rfl (k := b) (by omega) (by decide) dX0_exchangeCells_25 (fun H locs hP hD hS => ?_)
  have hP : va_P (dC, dI) vwCm [(h0, .inr (0, [.ref a1, .ref a2, .int (nI w), .int (nI h), .int (nI kw), .int (nI kh)])), (a1, .inl (cA, 4096, .inl (upd (upd f a (f b)) b (f a)))), (a2, .inl (cB, 4096, .inl g))] H := hP
  have hD : va_D A [(h0, .inr (0, [.ref a1, .ref a2, .int (nI w), .int (nI h), .int (nI kw), .int (nI kh)])), (a1, .inl (cA, 4096, .inl (upd (upd f a (f b)) b (f a)))), (a2, .inl (cB, 4096, .inl g))] := hD
  have hP9 := hP.sub (ws' := [(h0, .inr (0, [.ref a1, .ref a2, .int (nI w), .int (nI h), .int (nI kw), .int (nI kh)])), (a1, .inl (cA, 4096, .inl (upd (upd f a (f b)) b (f a)))), (a2, .inl (cB, 4096, .inl g))]) [0, 1, 2] rfl
  have hD9 := hD.sub (ws' := [(h0, .inr (0, [.ref a1, .ref a2, .int (nI w), .int (nI h), .int (nI kw), .int (nI kh)])), (a1, .inl (cA, 4096, .inl (upd (upd f a (f b)) b (f a)))), (a2, .inl (cB, 4096, .inl g))]) [0, 1, 2] (by decide) rfl
  exact W.vret hx hb hr (fun t ht hW => ⟨⟨_, rfl, rfl, by rw [ht]; exact hP9, va_K.moved hW.alike hK, hD9⟩, hS.F ht⟩) hS.2.2 dX0_exchangeCells_26
set_option maxHeartbeats 4000000 in
set_option maxRecDepth 100000 in
/-- X0_exchangeBlocks -/
theorem kX0_exchangeBlocks (l : Launch) (dC : Nat → ClassId) (dI : Nat → Nat → Nat) (sz : Nat) (h0 a1 a2 : Nat) (cA cB : ClassId) (f g : Nat → Int32) (w h kw kh : Nat) (i j : Nat) (hi : i < 64) (hj : j < 64) : Met l yX0_exchangeBlocks wsX0_exchangeBlocks ({ frames := 1, cells := 0, slots := 0, locals := 23 }) (va_Pc [.ref h0, .int (nI (64 * i)), .int (nI (64 * j))] (fun U => U.heap.size = sz ∧ va_P (dC, dI) vwCm [(h0, .inr (0, [.ref a1, .ref a2, .int (nI w), .int (nI h), .int (nI kw), .int (nI kh)])), (a1, .inl (cA, 4096, .inl f)), (a2, .inl (cB, 4096, .inl g))] U.heap ∧ va_K (dC, dI) vwCm [(cA, .int), (cB, .int)] U ∧ va_D (fun _ => True) [(h0, .inr (0, [.ref a1, .ref a2, .int (nI w), .int (nI h), .int (nI kw), .int (nI kh)])), (a1, .inl (cA, 4096, .inl f)), (a2, .inl (cB, 4096, .inl g))])) (va_Qv (fun u : Nat → Int32 => cf_xB f u i j) (fun (u : Nat → Int32) (t : State) => va_P (dC, dI) vwCm [(h0, .inr (0, [.ref a1, .ref a2, .int (nI w), .int (nI h), .int (nI kw), .int (nI kh)])), (a1, .inl (cA, 4096, .inl u)), (a2, .inl (cB, 4096, .inl g))] t.heap ∧ va_K (dC, dI) vwCm [(cA, .int), (cB, .int)] t ∧ va_D (va_A [(h0, .inr (0, [.ref a1, .ref a2, .int (nI w), .int (nI h), .int (nI kw), .int (nI kh)])), (a1, .inl (cA, 4096, .inl f)), (a2, .inl (cB, 4096, .inl g))] sz) [(h0, .inr (0, [.ref a1, .ref a2, .int (nI w), .int (nI h), .int (nI kw), .int (nI kh)])), (a1, .inl (cA, 4096, .inl u)), (a2, .inl (cB, 4096, .inl g))]) (va_A [(h0, .inr (0, [.ref a1, .ref a2, .int (nI w), .int (nI h), .int (nI kw), .int (nI kh)])), (a1, .inl (cA, 4096, .inl f)), (a2, .inl (cB, 4096, .inl g))] sz)) 0 0 (va_A [(h0, .inr (0, [.ref a1, .ref a2, .int (nI w), .int (nI h), .int (nI kw), .int (nI kh)])), (a1, .inl (cA, 4096, .inl f)), (a2, .inl (cB, 4096, .inl g))] sz) := by
  refine Met.ofW (cc := cX0_exchangeBlocks) (maxL := 4) (ret := none) (by decide) rfl ?_
  intro p e s m args below meth c s₁ B hml hv
  obtain ⟨rfl, hsz, hP, hK, hD0⟩ := hv
  have hx := B.exec
  have hb := B.bytes
  have hr := B.returns
  have hts := atoms_spec (ws := wsX0_exchangeBlocks) B.pre
  have hown : s.vm.findClass RX0 = some m.cls := findClass_of_methodNamed B.named
  have hlocks := B.notSynchronized
  subst hsz
  have hD := hD0.self (sz := s.heap.size)
  generalize hAe : va_A [(h0, .inr (0, [.ref a1, .ref a2, .int (nI w), .int (nI h), .int (nI kw), .int (nI kh)])), (a1, .inl (cA, 4096, .inl f)), (a2, .inl (cB, 4096, .inl g))] s.heap.size = A at hD ⊢
  have hA : ∀ q : Nat, s.heap.size ≤ q → A q := fun q h => by rw [← hAe]; exact Or.inr h
  have hS : va_S A s.heap s.heap [] := va_S.rf
  have hP : va_P (dC, dI) vwCm [(h0, .inr (0, [.ref a1, .ref a2, .int (nI w), .int (nI h), .int (nI kw), .int (nI kh)])), (a1, .inl (cA, 4096, .inl f)), (a2, .inl (cB, 4096, .inl g))] s.heap := hP
  have hl := lv_entry ([.ref h0, .int (nI (64 * i)), .int (nI (64 * j))]) (n := 4) (Nat.le_of_ble_eq_true rfl)
  rw [lg_entry_eq]
  generalize (lg_sl ([.ref h0, .int (nI (64 * i)), .int (nI (64 * j))]) ++ List.replicate (4 - (lg_sl ([.ref h0, .int (nI (64 * i)), .int (nI (64 * j))])).length) Slot.unset).toArray = ls at hl ⊢
  have hl : lv_has ls 4 [(0, .ref h0), (1, .int (nI (64 * i))), (2, .int (nI (64 * j)))] := hl
  refine lv_iconst (v := nI 0) hx hb dX0_exchangeBlocks_0 (by decide +kernel) ?_
  refine lv_istore_n (lv' := [(3, .int (nI 0)), (0, .ref h0), (1, .int (nI (64 * i))), (2, .int (nI (64 * j)))]) hx hb dX0_exchangeBlocks_1 rfl hl (by decide) rfl (fun ls hl => ?_)
  have lp2 : ∀ (n2 : Nat) (p0 : Nat) (fc : Nat → Int32), p0 ≤ 64 → 64 < p0 + n2 → cf_xb f fc i j p0 → ∀ (H : Heap) (locs : List Loc), va_P (dC, dI) vwCm [(h0, .inr (0, [.ref a1, .ref a2, .int (nI w), .int (nI h), .int (nI kw), .int (nI kh)])), (a1, .inl (cA, 4096, .inl fc)), (a2, .inl (cB, 4096, .inl g))] H → va_D A [(h0, .inr (0, [.ref a1, .ref a2, .int (nI w), .int (nI h), .int (nI kw), .int (nI kh)])), (a1, .inl (cA, 4096, .inl fc)), (a2, .inl (cB, 4096, .inl g))] → va_S A s.heap H locs → ∀ (ls : Array Slot), lv_has ls 4 [(0, .ref h0), (1, .int (nI (64 * i))), (2, .int (nI (64 * j))), (3, .int (nI p0))] → W p l e (headSpec wsX0_exchangeBlocks ({ frames := 1, cells := 0, slots := 0, locals := 23 })).room s m ([.ref h0, .int (nI (64 * i)), .int (nI (64 * j))] : List Value).toArray below meth c H locs 0 0 (MQ below (va_Qv (fun u : Nat → Int32 => cf_xB f u i j) (fun (u : Nat → Int32) (t : State) => va_P (dC, dI) vwCm [(h0, .inr (0, [.ref a1, .ref a2, .int (nI w), .int (nI h), .int (nI kw), .int (nI kh)])), (a1, .inl (cA, 4096, .inl u)), (a2, .inl (cB, 4096, .inl g))] t.heap ∧ va_K (dC, dI) vwCm [(cA, .int), (cB, .int)] t ∧ va_D A [(h0, .inr (0, [.ref a1, .ref a2, .int (nI w), .int (nI h), .int (nI kw), .int (nI kh)])), (a1, .inl (cA, 4096, .inl u)), (a2, .inl (cB, 4096, .inl g))]) A) ([.ref h0, .int (nI (64 * i)), .int (nI (64 * j))] : List Value).toArray s 0 0 A) (F0 m 2 ls []) := by
    intro n2
    induction n2 with
    | zero => intro p0 fc h1 h2; exact absurd h2 (by omega)
    | succ n2 ih2 =>
      intro p0 fc hk2 hn2 hI H locs hP hD hS ls hl
      refine lv_iload_n hx hb dX0_exchangeBlocks_2 rfl (lv_at hl 3 rfl) ?_
      refine lv_bipush (v := nI 64) hx hb dX0_exchangeBlocks_3 (by decide +kernel) ?_
      refine lv_icmp_ge (tgt := 24) hx hb dX0_exchangeBlocks_5 (by decide) (fun c5 => ?_) (fun c5 => ?_)
      · skip
        have c5 := (nI_leI (a := 64) (b := p0) (by omega) (by omega)).mp c5
        have hP9 := hP.sub (ws' := [(h0, .inr (0, [.ref a1, .ref a2, .int (nI w), .int (nI h), .int (nI kw), .int (nI kh)])), (a1, .inl (cA, 4096, .inl fc)), (a2, .inl (cB, 4096, .inl g))]) [0, 1, 2] rfl
        have hD9 := hD.sub (ws' := [(h0, .inr (0, [.ref a1, .ref a2, .int (nI w), .int (nI h), .int (nI kw), .int (nI kh)])), (a1, .inl (cA, 4096, .inl fc)), (a2, .inl (cB, 4096, .inl g))]) [0, 1, 2] (by decide) rfl
        exact W.vret hx hb hr (fun t ht hW => ⟨⟨fc, rfl, (by have e : p0 = 64 := (by omega); rw [e] at hI; exact cf_xb_e hI), by rw [ht]; exact hP9, va_K.moved hW.alike hK, hD9⟩, hS.F ht⟩) hS.2.2 dX0_exchangeBlocks_24
      · skip
        have c5 := mt (nI_leI (a := 64) (b := p0) (by omega) (by omega)).mpr c5
        refine lv_aload_n hx hb dX0_exchangeBlocks_8 rfl (lv_at hl 0 rfl) ?_
        refine lv_iload_n hx hb dX0_exchangeBlocks_9 rfl (lv_at hl 1 rfl) ?_
        refine lv_iload_n hx hb dX0_exchangeBlocks_10 rfl (lv_at hl 3 rfl) ?_
        refine lv_iadd hx hb dX0_exchangeBlocks_11 ?_
        refine cf_top (nI_add _ _) ?_
        refine lv_iload_n hx hb dX0_exchangeBlocks_12 rfl (lv_at hl 2 rfl) ?_
        refine lv_iload_n hx hb dX0_exchangeBlocks_13 rfl (lv_at hl 3 rfl) ?_
        refine lv_iadd hx hb dX0_exchangeBlocks_14 ?_
        refine cf_top (nI_add _ _) ?_
        have hPc := hP.sub (ws' := [(h0, .inr (0, [.ref a1, .ref a2, .int (nI w), .int (nI h), .int (nI kw), .int (nI kh)])), (a1, .inl (cA, 4096, .inl fc)), (a2, .inl (cB, 4096, .inl g))]) [0, 1, 2] rfl
        have hKc := hK.sub (tys' := [(cA, .int), (cB, .int)]) [0, 1] rfl
        have hDc := hD.sub (ws' := [(h0, .inr (0, [.ref a1, .ref a2, .int (nI w), .int (nI h), .int (nI kw), .int (nI kh)])), (a1, .inl (cA, 4096, .inl fc)), (a2, .inl (cB, 4096, .inl g))]) [0, 1, 2] (by decide) rfl
        have hFc := va_free (wc := [(h0, .inr (0, [.ref a1, .ref a2, .int (nI w), .int (nI h), .int (nI kw), .int (nI kh)])), (a1, .inl (cA, 4096, .inl fc)), (a2, .inl (cB, 4096, .inl g))]) hD hS hA [0, 1, 2] rfl
        refine va_callv (va_runV (As := [.int (nI (64 * i + p0)), .int (nI (64 * j + p0))]) (rest := []) ⟨hx, hb, hml, hown, hts⟩ (kX0_exchangeCells l dC dI H.size h0 a1 a2 cA cB fc g w h kw kh (64 * i + p0) (64 * j + p0) (by omega) (by omega)) (cwV 2 hts gX0_exchangeBlocks_X0_exchangeCells rfl rfl rfl (by decide +kernel) ⟨Nat.le_of_ble_eq_true rfl, Nat.le_of_ble_eq_true rfl⟩) ⟨fun a U g mk q => by obtain ⟨q0, q1, qP, qK, qD⟩ := q; exact ⟨q0, q1, qP, va_K.moved (u := U) (U := U.calling g mk a) (Vm.Alike.refl U.vm) qK, qD⟩, va_recv hKc hPc (ci := 0) (q0 := 0) rfl rfl, fun U hU hW => ⟨rfl, by rw [hU], by rw [hU]; exact hPc, va_K.moved hW.alike hKc, hDc.weaken (fun _ _ _ _ => trivial)⟩⟩ rfl rfl hl.1 rfl (lv_room (Nat.le_of_ble_eq_true rfl)) dX0_exchangeBlocks_15 ⟨Nat.le_of_ble_eq_true rfl, Nat.le_of_ble_eq_true rfl⟩) hS (fun q _ h => hFc q h) hFc (fun u15 t H1 locs ht hvm w15 hB hz1 hk1 hS => ?_)
        obtain ⟨hP1, -, hD1⟩ := hB
        rw [ht] at hP1
        try dsimp only at w15
        obtain ⟨hP, hD⟩ := va_join (wr := []) (w1 := [(h0, .inr (0, [.ref a1, .ref a2, .int (nI w), .int (nI h), .int (nI kw), .int (nI kh)])), (a1, .inl (cA, 4096, .inl u15)), (a2, .inl (cB, 4096, .inl g))]) hP hD [0, 1, 2] [] rfl rfl (by decide) (by decide) hk1 hFc hP1 hD1
        generalize H1 = H at hP hS ⊢
        have hP : va_P (dC, dI) vwCm [(h0, .inr (0, [.ref a1, .ref a2, .int (nI w), .int (nI h), .int (nI kw), .int (nI kh)])), (a1, .inl (cA, 4096, .inl u15)), (a2, .inl (cB, 4096, .inl g))] H := hP
        have hD : va_D A [(h0, .inr (0, [.ref a1, .ref a2, .int (nI w), .int (nI h), .int (nI kw), .int (nI kh)])), (a1, .inl (cA, 4096, .inl u15)), (a2, .inl (cB, 4096, .inl g))] := hD
        refine lv_iinc (v := nI (p0 + 1)) (lv' := [(3, .int (nI (p0 + 1))), (0, .ref h0), (1, .int (nI (64 * i))), (2, .int (nI (64 * j)))]) hx hb dX0_exchangeBlocks_18 hl (k := 3) rfl (by rw [← nI_add]; rfl) (by decide) rfl (fun ls hl => ?_)
        refine lv_goto (tgt := 2) hx hb dX0_exchangeBlocks_21 (by decide) ?_
        exact ih2 (p0 + 1) u15 (by omega) (by omega) (by rw [w15]; exact cf_xb_s hI (by omega)) H locs hP hD hS ls (lv_sub hl [1, 2, 3, 0] rfl)
  exact lp2 (64 + 1) 0 f (by omega) (by omega) cf_xb_0 s.heap [] hP hD hS ls (lv_sub hl [1, 2, 3, 0] rfl)
end
section
set_option maxHeartbeats 4000000 in
set_option maxRecDepth 100000 in
/-- X0_transposeBlock -/
theorem kX0_transposeBlock (l : Launch) (dC : Nat → ClassId) (dI : Nat → Nat → Nat) (sz : Nat) (h0 a1 a2 : Nat) (cA cB : ClassId) (f g : Nat → Int32) (w h kw kh : Nat) (i : Nat) (hi : i < 64) : Met l yX0_transposeBlock wsX0_transposeBlock ({ frames := 1, cells := 0, slots := 0, locals := 23 }) (va_Pc [.ref h0, .int (nI (64 * i))] (fun U => U.heap.size = sz ∧ va_P (dC, dI) vwCm [(h0, .inr (0, [.ref a1, .ref a2, .int (nI w), .int (nI h), .int (nI kw), .int (nI kh)])), (a1, .inl (cA, 4096, .inl f)), (a2, .inl (cB, 4096, .inl g))] U.heap ∧ va_K (dC, dI) vwCm [(cA, .int), (cB, .int)] U ∧ va_D (fun _ => True) [(h0, .inr (0, [.ref a1, .ref a2, .int (nI w), .int (nI h), .int (nI kw), .int (nI kh)])), (a1, .inl (cA, 4096, .inl f)), (a2, .inl (cB, 4096, .inl g))])) (va_Qv (fun u : Nat → Int32 => cf_tB i f u) (fun (u : Nat → Int32) (t : State) => va_P (dC, dI) vwCm [(h0, .inr (0, [.ref a1, .ref a2, .int (nI w), .int (nI h), .int (nI kw), .int (nI kh)])), (a1, .inl (cA, 4096, .inl u)), (a2, .inl (cB, 4096, .inl g))] t.heap ∧ va_K (dC, dI) vwCm [(cA, .int), (cB, .int)] t ∧ va_D (va_A [(h0, .inr (0, [.ref a1, .ref a2, .int (nI w), .int (nI h), .int (nI kw), .int (nI kh)])), (a1, .inl (cA, 4096, .inl f)), (a2, .inl (cB, 4096, .inl g))] sz) [(h0, .inr (0, [.ref a1, .ref a2, .int (nI w), .int (nI h), .int (nI kw), .int (nI kh)])), (a1, .inl (cA, 4096, .inl u)), (a2, .inl (cB, 4096, .inl g))]) (va_A [(h0, .inr (0, [.ref a1, .ref a2, .int (nI w), .int (nI h), .int (nI kw), .int (nI kh)])), (a1, .inl (cA, 4096, .inl f)), (a2, .inl (cB, 4096, .inl g))] sz)) 0 0 (va_A [(h0, .inr (0, [.ref a1, .ref a2, .int (nI w), .int (nI h), .int (nI kw), .int (nI kh)])), (a1, .inl (cA, 4096, .inl f)), (a2, .inl (cB, 4096, .inl g))] sz) := by
  refine Met.ofW (cc := cX0_transposeBlock) (maxL := 4) (ret := none) (by decide) rfl ?_
  intro p e s m args below meth c s₁ B hml hv
  obtain ⟨rfl, hsz, hP, hK, hD0⟩ := hv
  have hx := B.exec
  have hb := B.bytes
  have hr := B.returns
  have hts := atoms_spec (ws := wsX0_transposeBlock) B.pre
  have hown : s.vm.findClass RX0 = some m.cls := findClass_of_methodNamed B.named
  have hlocks := B.notSynchronized
  subst hsz
  have hD := hD0.self (sz := s.heap.size)
  generalize hAe : va_A [(h0, .inr (0, [.ref a1, .ref a2, .int (nI w), .int (nI h), .int (nI kw), .int (nI kh)])), (a1, .inl (cA, 4096, .inl f)), (a2, .inl (cB, 4096, .inl g))] s.heap.size = A at hD ⊢
  have hA : ∀ q : Nat, s.heap.size ≤ q → A q := fun q h => by rw [← hAe]; exact Or.inr h
  have hS : va_S A s.heap s.heap [] := va_S.rf
  have hP : va_P (dC, dI) vwCm [(h0, .inr (0, [.ref a1, .ref a2, .int (nI w), .int (nI h), .int (nI kw), .int (nI kh)])), (a1, .inl (cA, 4096, .inl f)), (a2, .inl (cB, 4096, .inl g))] s.heap := hP
  have hl := lv_entry ([.ref h0, .int (nI (64 * i))]) (n := 4) (Nat.le_of_ble_eq_true rfl)
  rw [lg_entry_eq]
  generalize (lg_sl ([.ref h0, .int (nI (64 * i))]) ++ List.replicate (4 - (lg_sl ([.ref h0, .int (nI (64 * i))])).length) Slot.unset).toArray = ls at hl ⊢
  have hl : lv_has ls 4 [(0, .ref h0), (1, .int (nI (64 * i)))] := hl
  refine lv_iconst (v := nI 1) hx hb dX0_transposeBlock_0 (by decide +kernel) ?_
  refine lv_istore_n (lv' := [(2, .int (nI 1)), (0, .ref h0), (1, .int (nI (64 * i)))]) hx hb dX0_transposeBlock_1 rfl hl (by decide) rfl (fun ls hl => ?_)
  have lp2 : ∀ (n2 : Nat) (v0 : Nat) (fc : Nat → Int32), v0 ≤ 8 → 8 < v0 + n2 → cf_tb i v0 0 f fc → ∀ (H : Heap) (locs : List Loc), va_P (dC, dI) vwCm [(h0, .inr (0, [.ref a1, .ref a2, .int (nI w), .int (nI h), .int (nI kw), .int (nI kh)])), (a1, .inl (cA, 4096, .inl fc)), (a2, .inl (cB, 4096, .inl g))] H → va_D A [(h0, .inr (0, [.ref a1, .ref a2, .int (nI w), .int (nI h), .int (nI kw), .int (nI kh)])), (a1, .inl (cA, 4096, .inl fc)), (a2, .inl (cB, 4096, .inl g))] → va_S A s.heap H locs → ∀ (ls : Array Slot), lv_has ls 4 [(0, .ref h0), (1, .int (nI (64 * i))), (2, .int (nI v0))] → W p l e (headSpec wsX0_transposeBlock ({ frames := 1, cells := 0, slots := 0, locals := 23 })).room s m ([.ref h0, .int (nI (64 * i))] : List Value).toArray below meth c H locs 0 0 (MQ below (va_Qv (fun u : Nat → Int32 => cf_tB i f u) (fun (u : Nat → Int32) (t : State) => va_P (dC, dI) vwCm [(h0, .inr (0, [.ref a1, .ref a2, .int (nI w), .int (nI h), .int (nI kw), .int (nI kh)])), (a1, .inl (cA, 4096, .inl u)), (a2, .inl (cB, 4096, .inl g))] t.heap ∧ va_K (dC, dI) vwCm [(cA, .int), (cB, .int)] t ∧ va_D A [(h0, .inr (0, [.ref a1, .ref a2, .int (nI w), .int (nI h), .int (nI kw), .int (nI kh)])), (a1, .inl (cA, 4096, .inl u)), (a2, .inl (cB, 4096, .inl g))]) A) ([.ref h0, .int (nI (64 * i))] : List Value).toArray s 0 0 A) (F0 m 2 ls []) := by
    intro n2
    induction n2 with
    | zero => intro v0 fc h1 h2; exact absurd h2 (by omega)
    | succ n2 ih2 =>
      intro v0 fc hk2 hn2 hI H locs hP hD hS ls hl
      refine lv_iload_n hx hb dX0_transposeBlock_2 rfl (lv_at hl 2 rfl) ?_
      refine lv_bipush (v := nI 8) hx hb dX0_transposeBlock_3 (by decide +kernel) ?_
      refine lv_icmp_ge (tgt := 47) hx hb dX0_transposeBlock_5 (by decide) (fun c5 => ?_) (fun c5 => ?_)
      · skip
        have c5 := (nI_leI (a := 8) (b := v0) (by omega) (by omega)).mp c5
        have hP9 := hP.sub (ws' := [(h0, .inr (0, [.ref a1, .ref a2, .int (nI w), .int (nI h), .int (nI kw), .int (nI kh)])), (a1, .inl (cA, 4096, .inl fc)), (a2, .inl (cB, 4096, .inl g))]) [0, 1, 2] rfl
        have hD9 := hD.sub (ws' := [(h0, .inr (0, [.ref a1, .ref a2, .int (nI w), .int (nI h), .int (nI kw), .int (nI kh)])), (a1, .inl (cA, 4096, .inl fc)), (a2, .inl (cB, 4096, .inl g))]) [0, 1, 2] (by decide) rfl
        exact W.vret hx hb hr (fun t ht hW => ⟨⟨fc, rfl, (by have e : v0 = 8 := (by omega); rw [e] at hI; exact cf_tb_e hI), by rw [ht]; exact hP9, va_K.moved hW.alike hK, hD9⟩, hS.F ht⟩) hS.2.2 dX0_transposeBlock_47
      · skip
        have c5 := mt (nI_leI (a := 8) (b := v0) (by omega) (by omega)).mpr c5
        refine lv_iconst (v := nI 0) hx hb dX0_transposeBlock_8 (by decide +kernel) ?_
        refine lv_istore_n (lv' := [(3, .int (nI 0)), (0, .ref h0), (1, .int (nI (64 * i))), (2, .int (nI v0))]) hx hb dX0_transposeBlock_9 rfl hl (by decide) rfl (fun ls hl => ?_)
        have lp10 : ∀ (n10 : Nat) (u0 : Nat) (fd : Nat → Int32), u0 ≤ v0 → v0 < u0 + n10 → cf_tb i v0 u0 f fd → ∀ (H : Heap) (locs : List Loc), va_P (dC, dI) vwCm [(h0, .inr (0, [.ref a1, .ref a2, .int (nI w), .int (nI h), .int (nI kw), .int (nI kh)])), (a1, .inl (cA, 4096, .inl fd)), (a2, .inl (cB, 4096, .inl g))] H → va_D A [(h0, .inr (0, [.ref a1, .ref a2, .int (nI w), .int (nI h), .int (nI kw), .int (nI kh)])), (a1, .inl (cA, 4096, .inl fd)), (a2, .inl (cB, 4096, .inl g))] → va_S A s.heap H locs → ∀ (ls : Array Slot), lv_has ls 4 [(0, .ref h0), (1, .int (nI (64 * i))), (2, .int (nI v0)), (3, .int (nI u0))] → W p l e (headSpec wsX0_transposeBlock ({ frames := 1, cells := 0, slots := 0, locals := 23 })).room s m ([.ref h0, .int (nI (64 * i))] : List Value).toArray below meth c H locs 0 0 (MQ below (va_Qv (fun u : Nat → Int32 => cf_tB i f u) (fun (u : Nat → Int32) (t : State) => va_P (dC, dI) vwCm [(h0, .inr (0, [.ref a1, .ref a2, .int (nI w), .int (nI h), .int (nI kw), .int (nI kh)])), (a1, .inl (cA, 4096, .inl u)), (a2, .inl (cB, 4096, .inl g))] t.heap ∧ va_K (dC, dI) vwCm [(cA, .int), (cB, .int)] t ∧ va_D A [(h0, .inr (0, [.ref a1, .ref a2, .int (nI w), .int (nI h), .int (nI kw), .int (nI kh)])), (a1, .inl (cA, 4096, .inl u)), (a2, .inl (cB, 4096, .inl g))]) A) ([.ref h0, .int (nI (64 * i))] : List Value).toArray s 0 0 A) (F0 m 10 ls []) := by
          intro n10
          induction n10 with
          | zero => intro u0 fd h1 h2; exact absurd h2 (by omega)
          | succ n10 ih10 =>
            intro u0 fd hk10 hn10 hI1 H locs hP hD hS ls hl
            refine lv_iload_n hx hb dX0_transposeBlock_10 rfl (lv_at hl 3 rfl) ?_
            refine lv_iload_n hx hb dX0_transposeBlock_11 rfl (lv_at hl 2 rfl) ?_
            refine lv_icmp_ge (tgt := 41) hx hb dX0_transposeBlock_12 (by decide) (fun c12 => ?_) (fun c12 => ?_)
            · skip
              have c12 := (nI_leI (a := v0) (b := u0) (by omega) (by omega)).mp c12
              refine lv_iinc (v := nI (v0 + 1)) (lv' := [(2, .int (nI (v0 + 1))), (0, .ref h0), (1, .int (nI (64 * i))), (3, .int (nI u0))]) hx hb dX0_transposeBlock_41 hl (k := 2) rfl (by rw [← nI_add]; rfl) (by decide) rfl (fun ls hl => ?_)
              refine lv_goto (tgt := 2) hx hb dX0_transposeBlock_44 (by decide) ?_
              exact ih2 (v0 + 1) fd (by omega) (by omega) (cf_tb_r hI1 (by omega)) H locs hP hD hS ls (lv_sub hl [1, 2, 0] rfl)
            · skip
              have c12 := mt (nI_leI (a := v0) (b := u0) (by omega) (by omega)).mpr c12
              refine lv_aload_n hx hb dX0_transposeBlock_15 rfl (lv_at hl 0 rfl) ?_
              refine lv_iload_n hx hb dX0_transposeBlock_16 rfl (lv_at hl 1 rfl) ?_
              refine lv_bipush (v := nI 8) hx hb dX0_transposeBlock_17 (by decide +kernel) ?_
              refine lv_iload_n hx hb dX0_transposeBlock_19 rfl (lv_at hl 2 rfl) ?_
              refine lv_imul hx hb dX0_transposeBlock_20 ?_
              refine cf_top (pk_mul _ _) ?_
              refine lv_iadd hx hb dX0_transposeBlock_21 ?_
              refine cf_top (nI_add _ _) ?_
              refine lv_iload_n hx hb dX0_transposeBlock_22 rfl (lv_at hl 3 rfl) ?_
              refine lv_iadd hx hb dX0_transposeBlock_23 ?_
              refine cf_top (nI_add _ _) ?_
              refine lv_iload_n hx hb dX0_transposeBlock_24 rfl (lv_at hl 1 rfl) ?_
              refine lv_bipush (v := nI 8) hx hb dX0_transposeBlock_25 (by decide +kernel) ?_
              refine lv_iload_n hx hb dX0_transposeBlock_27 rfl (lv_at hl 3 rfl) ?_
              refine lv_imul hx hb dX0_transposeBlock_28 ?_
              refine cf_top (pk_mul _ _) ?_
              refine lv_iadd hx hb dX0_transposeBlock_29 ?_
              refine cf_top (nI_add _ _) ?_
              refine lv_iload_n hx hb dX0_transposeBlock_30 rfl (lv_at hl 2 rfl) ?_
              refine lv_iadd hx hb dX0_transposeBlock_31 ?_
              refine cf_top (nI_add _ _) ?_
              have hPc := hP.sub (ws' := [(h0, .inr (0, [.ref a1, .ref a2, .int (nI w), .int (nI h), .int (nI kw), .int (nI kh)])), (a1, .inl (cA, 4096, .inl fd)), (a2, .inl (cB, 4096, .inl g))]) [0, 1, 2] rfl
              have hKc := hK.sub (tys' := [(cA, .int), (cB, .int)]) [0, 1] rfl
              have hDc := hD.sub (ws' := [(h0, .inr (0, [.ref a1, .ref a2, .int (nI w), .int (nI h), .int (nI kw), .int (nI kh)])), (a1, .inl (cA, 4096, .inl fd)), (a2, .inl (cB, 4096, .inl g))]) [0, 1, 2] (by decide) rfl
              have hFc := va_free (wc := [(h0, .inr (0, [.ref a1, .ref a2, .int (nI w), .int (nI h), .int (nI kw), .int (nI kh)])), (a1, .inl (cA, 4096, .inl fd)), (a2, .inl (cB, 4096, .inl g))]) hD hS hA [0, 1, 2] rfl
              refine va_callv (va_runV (As := [.int (nI (64 * i + 8 * v0 + u0)), .int (nI (64 * i + 8 * u0 + v0))]) (rest := []) ⟨hx, hb, hml, hown, hts⟩ (kX0_exchangeCells l dC dI H.size h0 a1 a2 cA cB fd g w h kw kh (64 * i + 8 * v0 + u0) (64 * i + 8 * u0 + v0) (by omega) (by omega)) (cwV 2 hts gX0_transposeBlock_X0_exchangeCells rfl rfl rfl (by decide +kernel) ⟨Nat.le_of_ble_eq_true rfl, Nat.le_of_ble_eq_true rfl⟩) ⟨fun a U g mk q => by obtain ⟨q0, q1, qP, qK, qD⟩ := q; exact ⟨q0, q1, qP, va_K.moved (u := U) (U := U.calling g mk a) (Vm.Alike.refl U.vm) qK, qD⟩, va_recv hKc hPc (ci := 0) (q0 := 0) rfl rfl, fun U hU hW => ⟨rfl, by rw [hU], by rw [hU]; exact hPc, va_K.moved hW.alike hKc, hDc.weaken (fun _ _ _ _ => trivial)⟩⟩ rfl rfl hl.1 rfl (lv_room (Nat.le_of_ble_eq_true rfl)) dX0_transposeBlock_32 ⟨Nat.le_of_ble_eq_true rfl, Nat.le_of_ble_eq_true rfl⟩) hS (fun q _ h => hFc q h) hFc (fun u32 t H1 locs ht hvm w32 hB hz1 hk1 hS => ?_)
              obtain ⟨hP1, -, hD1⟩ := hB
              rw [ht] at hP1
              try dsimp only at w32
              obtain ⟨hP, hD⟩ := va_join (wr := []) (w1 := [(h0, .inr (0, [.ref a1, .ref a2, .int (nI w), .int (nI h), .int (nI kw), .int (nI kh)])), (a1, .inl (cA, 4096, .inl u32)), (a2, .inl (cB, 4096, .inl g))]) hP hD [0, 1, 2] [] rfl rfl (by decide) (by decide) hk1 hFc hP1 hD1
              generalize H1 = H at hP hS ⊢
              have hP : va_P (dC, dI) vwCm [(h0, .inr (0, [.ref a1, .ref a2, .int (nI w), .int (nI h), .int (nI kw), .int (nI kh)])), (a1, .inl (cA, 4096, .inl u32)), (a2, .inl (cB, 4096, .inl g))] H := hP
              have hD : va_D A [(h0, .inr (0, [.ref a1, .ref a2, .int (nI w), .int (nI h), .int (nI kw), .int (nI kh)])), (a1, .inl (cA, 4096, .inl u32)), (a2, .inl (cB, 4096, .inl g))] := hD
              refine lv_iinc (v := nI (u0 + 1)) (lv' := [(3, .int (nI (u0 + 1))), (0, .ref h0), (1, .int (nI (64 * i))), (2, .int (nI v0))]) hx hb dX0_transposeBlock_35 hl (k := 3) rfl (by rw [← nI_add]; rfl) (by decide) rfl (fun ls hl => ?_)
              refine lv_goto (tgt := 10) hx hb dX0_transposeBlock_38 (by decide) ?_
              exact ih10 (u0 + 1) u32 (by omega) (by omega) (by rw [w32, Nat.add_assoc, Nat.add_assoc]; exact cf_tb_s hI1 (by omega) (by omega)) H locs hP hD hS ls (lv_sub hl [1, 2, 3, 0] rfl)
        exact lp10 (v0 + 1) 0 fc (by omega) (by omega) hI H locs hP hD hS ls (lv_sub hl [1, 2, 3, 0] rfl)
  exact lp2 (8 + 1) 1 f (by omega) (by omega) cf_tb_0 s.heap [] hP hD hS ls (lv_sub hl [1, 2, 0] rfl)
set_option maxHeartbeats 4000000 in
set_option maxRecDepth 100000 in
/-- X0_exchangeAcrossDiagonal -/
theorem kX0_exchangeAcrossDiagonal (l : Launch) (dC : Nat → ClassId) (dI : Nat → Nat → Nat) (sz : Nat) (h0 a1 a2 : Nat) (cA cB : ClassId) (f g : Nat → Int32) (w h kw kh : Nat) (n : Nat) (hn : n ≤ 8) (hn1 : 1 ≤ n) : Met l yX0_exchangeAcrossDiagonal wsX0_exchangeAcrossDiagonal ({ frames := 2, cells := 0, slots := 0, locals := 46 }) (va_Pc [.ref h0, .int (nI n)] (fun U => U.heap.size = sz ∧ va_P (dC, dI) vwCm [(h0, .inr (0, [.ref a1, .ref a2, .int (nI w), .int (nI h), .int (nI kw), .int (nI kh)])), (a1, .inl (cA, 4096, .inl f)), (a2, .inl (cB, 4096, .inl g))] U.heap ∧ va_K (dC, dI) vwCm [(cA, .int), (cB, .int)] U ∧ va_D (fun _ => True) [(h0, .inr (0, [.ref a1, .ref a2, .int (nI w), .int (nI h), .int (nI kw), .int (nI kh)])), (a1, .inl (cA, 4096, .inl f)), (a2, .inl (cB, 4096, .inl g))])) (va_Qv (fun u : Nat → Int32 => cf_xD n f u) (fun (u : Nat → Int32) (t : State) => va_P (dC, dI) vwCm [(h0, .inr (0, [.ref a1, .ref a2, .int (nI w), .int (nI h), .int (nI kw), .int (nI kh)])), (a1, .inl (cA, 4096, .inl u)), (a2, .inl (cB, 4096, .inl g))] t.heap ∧ va_K (dC, dI) vwCm [(cA, .int), (cB, .int)] t ∧ va_D (va_A [(h0, .inr (0, [.ref a1, .ref a2, .int (nI w), .int (nI h), .int (nI kw), .int (nI kh)])), (a1, .inl (cA, 4096, .inl f)), (a2, .inl (cB, 4096, .inl g))] sz) [(h0, .inr (0, [.ref a1, .ref a2, .int (nI w), .int (nI h), .int (nI kw), .int (nI kh)])), (a1, .inl (cA, 4096, .inl u)), (a2, .inl (cB, 4096, .inl g))]) (va_A [(h0, .inr (0, [.ref a1, .ref a2, .int (nI w), .int (nI h), .int (nI kw), .int (nI kh)])), (a1, .inl (cA, 4096, .inl f)), (a2, .inl (cB, 4096, .inl g))] sz)) 0 0 (va_A [(h0, .inr (0, [.ref a1, .ref a2, .int (nI w), .int (nI h), .int (nI kw), .int (nI kh)])), (a1, .inl (cA, 4096, .inl f)), (a2, .inl (cB, 4096, .inl g))] sz) := by
  refine Met.ofW (cc := cX0_exchangeAcrossDiagonal) (maxL := 4) (ret := none) (by decide) rfl ?_
  intro p e s m args below meth c s₁ B hml hv
  obtain ⟨rfl, hsz, hP, hK, hD0⟩ := hv
  have hx := B.exec
  have hb := B.bytes
  have hr := B.returns
  have hts := atoms_spec (ws := wsX0_exchangeAcrossDiagonal) B.pre
  have hown : s.vm.findClass RX0 = some m.cls := findClass_of_methodNamed B.named
  have hlocks := B.notSynchronized
  subst hsz
  have hD := hD0.self (sz := s.heap.size)
  generalize hAe : va_A [(h0, .inr (0, [.ref a1, .ref a2, .int (nI w), .int (nI h), .int (nI kw), .int (nI kh)])), (a1, .inl (cA, 4096, .inl f)), (a2, .inl (cB, 4096, .inl g))] s.heap.size = A at hD ⊢
  have hA : ∀ q : Nat, s.heap.size ≤ q → A q := fun q h => by rw [← hAe]; exact Or.inr h
  have hS : va_S A s.heap s.heap [] := va_S.rf
  have hP : va_P (dC, dI) vwCm [(h0, .inr (0, [.ref a1, .ref a2, .int (nI w), .int (nI h), .int (nI kw), .int (nI kh)])), (a1, .inl (cA, 4096, .inl f)), (a2, .inl (cB, 4096, .inl g))] s.heap := hP
  have hl := lv_entry ([.ref h0, .int (nI n)]) (n := 4) (Nat.le_of_ble_eq_true rfl)
  rw [lg_entry_eq]
  generalize (lg_sl ([.ref h0, .int (nI n)]) ++ List.replicate (4 - (lg_sl ([.ref h0, .int (nI n)])).length) Slot.unset).toArray = ls at hl ⊢
  have hl : lv_has ls 4 [(0, .ref h0), (1, .int (nI n))] := hl
  refine lv_iconst (v := nI 1) hx hb dX0_exchangeAcrossDiagonal_0 (by decide +kernel) ?_
  refine lv_istore_n (lv' := [(2, .int (nI 1)), (0, .ref h0), (1, .int (nI n))]) hx hb dX0_exchangeAcrossDiagonal_1 rfl hl (by decide) rfl (fun ls hl => ?_)
  have lp2 : ∀ (n2 : Nat) (v0 : Nat) (fc : Nat → Int32), v0 ≤ n → n < v0 + n2 → cf_xd v0 0 f fc → ∀ (H : Heap) (locs : List Loc), va_P (dC, dI) vwCm [(h0, .inr (0, [.ref a1, .ref a2, .int (nI w), .int (nI h), .int (nI kw), .int (nI kh)])), (a1, .inl (cA, 4096, .inl fc)), (a2, .inl (cB, 4096, .inl g))] H → va_D A [(h0, .inr (0, [.ref a1, .ref a2, .int (nI w), .int (nI h), .int (nI kw), .int (nI kh)])), (a1, .inl (cA, 4096, .inl fc)), (a2, .inl (cB, 4096, .inl g))] → va_S A s.heap H locs → ∀ (ls : Array Slot), lv_has ls 4 [(0, .ref h0), (1, .int (nI n)), (2, .int (nI v0))] → W p l e (headSpec wsX0_exchangeAcrossDiagonal ({ frames := 2, cells := 0, slots := 0, locals := 46 })).room s m ([.ref h0, .int (nI n)] : List Value).toArray below meth c H locs 0 0 (MQ below (va_Qv (fun u : Nat → Int32 => cf_xD n f u) (fun (u : Nat → Int32) (t : State) => va_P (dC, dI) vwCm [(h0, .inr (0, [.ref a1, .ref a2, .int (nI w), .int (nI h), .int (nI kw), .int (nI kh)])), (a1, .inl (cA, 4096, .inl u)), (a2, .inl (cB, 4096, .inl g))] t.heap ∧ va_K (dC, dI) vwCm [(cA, .int), (cB, .int)] t ∧ va_D A [(h0, .inr (0, [.ref a1, .ref a2, .int (nI w), .int (nI h), .int (nI kw), .int (nI kh)])), (a1, .inl (cA, 4096, .inl u)), (a2, .inl (cB, 4096, .inl g))]) A) ([.ref h0, .int (nI n)] : List Value).toArray s 0 0 A) (F0 m 2 ls []) := by
    intro n2
    induction n2 with
    | zero => intro v0 fc h1 h2; exact absurd h2 (by omega)
    | succ n2 ih2 =>
      intro v0 fc hk2 hn2 hI H locs hP hD hS ls hl
      refine lv_iload_n hx hb dX0_exchangeAcrossDiagonal_2 rfl (lv_at hl 2 rfl) ?_
      refine lv_iload_n hx hb dX0_exchangeAcrossDiagonal_3 rfl (lv_at hl 1 rfl) ?_
      refine lv_icmp_ge (tgt := 40) hx hb dX0_exchangeAcrossDiagonal_4 (by decide) (fun c4 => ?_) (fun c4 => ?_)
      · skip
        have c4 := (nI_leI (a := n) (b := v0) (by omega) (by omega)).mp c4
        have hP9 := hP.sub (ws' := [(h0, .inr (0, [.ref a1, .ref a2, .int (nI w), .int (nI h), .int (nI kw), .int (nI kh)])), (a1, .inl (cA, 4096, .inl fc)), (a2, .inl (cB, 4096, .inl g))]) [0, 1, 2] rfl
        have hD9 := hD.sub (ws' := [(h0, .inr (0, [.ref a1, .ref a2, .int (nI w), .int (nI h), .int (nI kw), .int (nI kh)])), (a1, .inl (cA, 4096, .inl fc)), (a2, .inl (cB, 4096, .inl g))]) [0, 1, 2] (by decide) rfl
        exact W.vret hx hb hr (fun t ht hW => ⟨⟨fc, rfl, (by have e : v0 = n := (by omega); rw [e] at hI; exact cf_xd_e hI hn), by rw [ht]; exact hP9, va_K.moved hW.alike hK, hD9⟩, hS.F ht⟩) hS.2.2 dX0_exchangeAcrossDiagonal_40
      · skip
        have c4 := mt (nI_leI (a := n) (b := v0) (by omega) (by omega)).mpr c4
        refine lv_iconst (v := nI 0) hx hb dX0_exchangeAcrossDiagonal_7 (by decide +kernel) ?_
        refine lv_istore_n (lv' := [(3, .int (nI 0)), (0, .ref h0), (1, .int (nI n)), (2, .int (nI v0))]) hx hb dX0_exchangeAcrossDiagonal_8 rfl hl (by decide) rfl (fun ls hl => ?_)
        have lp9 : ∀ (n9 : Nat) (u0 : Nat) (fd : Nat → Int32), u0 ≤ v0 → v0 < u0 + n9 → cf_xd v0 u0 f fd → ∀ (H : Heap) (locs : List Loc), va_P (dC, dI) vwCm [(h0, .inr (0, [.ref a1, .ref a2, .int (nI w), .int (nI h), .int (nI kw), .int (nI kh)])), (a1, .inl (cA, 4096, .inl fd)), (a2, .inl (cB, 4096, .inl g))] H → va_D A [(h0, .inr (0, [.ref a1, .ref a2, .int (nI w), .int (nI h), .int (nI kw), .int (nI kh)])), (a1, .inl (cA, 4096, .inl fd)), (a2, .inl (cB, 4096, .inl g))] → va_S A s.heap H locs → ∀ (ls : Array Slot), lv_has ls 4 [(0, .ref h0), (1, .int (nI n)), (2, .int (nI v0)), (3, .int (nI u0))] → W p l e (headSpec wsX0_exchangeAcrossDiagonal ({ frames := 2, cells := 0, slots := 0, locals := 46 })).room s m ([.ref h0, .int (nI n)] : List Value).toArray below meth c H locs 0 0 (MQ below (va_Qv (fun u : Nat → Int32 => cf_xD n f u) (fun (u : Nat → Int32) (t : State) => va_P (dC, dI) vwCm [(h0, .inr (0, [.ref a1, .ref a2, .int (nI w), .int (nI h), .int (nI kw), .int (nI kh)])), (a1, .inl (cA, 4096, .inl u)), (a2, .inl (cB, 4096, .inl g))] t.heap ∧ va_K (dC, dI) vwCm [(cA, .int), (cB, .int)] t ∧ va_D A [(h0, .inr (0, [.ref a1, .ref a2, .int (nI w), .int (nI h), .int (nI kw), .int (nI kh)])), (a1, .inl (cA, 4096, .inl u)), (a2, .inl (cB, 4096, .inl g))]) A) ([.ref h0, .int (nI n)] : List Value).toArray s 0 0 A) (F0 m 9 ls []) := by
          intro n9
          induction n9 with
          | zero => intro u0 fd h1 h2; exact absurd h2 (by omega)
          | succ n9 ih9 =>
            intro u0 fd hk9 hn9 hI1 H locs hP hD hS ls hl
            refine lv_iload_n hx hb dX0_exchangeAcrossDiagonal_9 rfl (lv_at hl 3 rfl) ?_
            refine lv_iload_n hx hb dX0_exchangeAcrossDiagonal_10 rfl (lv_at hl 2 rfl) ?_
            refine lv_icmp_ge (tgt := 34) hx hb dX0_exchangeAcrossDiagonal_11 (by decide) (fun c11 => ?_) (fun c11 => ?_)
            · skip
              have c11 := (nI_leI (a := v0) (b := u0) (by omega) (by omega)).mp c11
              refine lv_iinc (v := nI (v0 + 1)) (lv' := [(2, .int (nI (v0 + 1))), (0, .ref h0), (1, .int (nI n)), (3, .int (nI u0))]) hx hb dX0_exchangeAcrossDiagonal_34 hl (k := 2) rfl (by rw [← nI_add]; rfl) (by decide) rfl (fun ls hl => ?_)
              refine lv_goto (tgt := 2) hx hb dX0_exchangeAcrossDiagonal_37 (by decide) ?_
              exact ih2 (v0 + 1) fd (by omega) (by omega) (cf_xd_r hI1 (by omega)) H locs hP hD hS ls (lv_sub hl [1, 2, 0] rfl)
            · skip
              have c11 := mt (nI_leI (a := v0) (b := u0) (by omega) (by omega)).mpr c11
              refine lv_aload_n hx hb dX0_exchangeAcrossDiagonal_14 rfl (lv_at hl 0 rfl) ?_
              refine lv_iload_n hx hb dX0_exchangeAcrossDiagonal_15 rfl (lv_at hl 3 rfl) ?_
              refine lv_iload_n hx hb dX0_exchangeAcrossDiagonal_16 rfl (lv_at hl 2 rfl) ?_
              refine vp_callSi (W.runS (As := [.int (nI u0), .int (nI v0)]) (rest := [.ref h0]) ⟨hx, hb, hml, hown, hts⟩ (kX0_blockStart l u0 v0) (va_cwS 2 hts gX0_exchangeAcrossDiagonal_X0_blockStart rfl rfl rfl (by decide +kernel) ⟨Nat.le_of_ble_eq_true rfl, Nat.le_of_ble_eq_true rfl⟩) ⟨fun a U g mk q => q, fun U hU hW => ⟨rfl, trivial⟩⟩ rfl rfl hl.1 rfl (lv_room (Nat.le_of_ble_eq_true rfl)) dX0_exchangeAcrossDiagonal_17 ⟨Nat.le_of_ble_eq_true rfl, Nat.le_of_ble_eq_true rfl⟩) (fun r17 w17 => ?_)
              subst w17
              refine lv_iload_n hx hb dX0_exchangeAcrossDiagonal_20 rfl (lv_at hl 2 rfl) ?_
              refine lv_iload_n hx hb dX0_exchangeAcrossDiagonal_21 rfl (lv_at hl 3 rfl) ?_
              refine vp_callSi (W.runS (As := [.int (nI v0), .int (nI u0)]) (rest := [.int (nI (64 * (8 * v0 + u0))), .ref h0]) ⟨hx, hb, hml, hown, hts⟩ (kX0_blockStart l v0 u0) (va_cwS 2 hts gX0_exchangeAcrossDiagonal_X0_blockStart rfl rfl rfl (by decide +kernel) ⟨Nat.le_of_ble_eq_true rfl, Nat.le_of_ble_eq_true rfl⟩) ⟨fun a U g mk q => q, fun U hU hW => ⟨rfl, trivial⟩⟩ rfl rfl hl.1 rfl (lv_room (Nat.le_of_ble_eq_true rfl)) dX0_exchangeAcrossDiagonal_22 ⟨Nat.le_of_ble_eq_true rfl, Nat.le_of_ble_eq_true rfl⟩) (fun r22 w22 => ?_)
              subst w22
              have hPc := hP.sub (ws' := [(h0, .inr (0, [.ref a1, .ref a2, .int (nI w), .int (nI h), .int (nI kw), .int (nI kh)])), (a1, .inl (cA, 4096, .inl fd)), (a2, .inl (cB, 4096, .inl g))]) [0, 1, 2] rfl
              have hKc := hK.sub (tys' := [(cA, .int), (cB, .int)]) [0, 1] rfl
              have hDc := hD.sub (ws' := [(h0, .inr (0, [.ref a1, .ref a2, .int (nI w), .int (nI h), .int (nI kw), .int (nI kh)])), (a1, .inl (cA, 4096, .inl fd)), (a2, .inl (cB, 4096, .inl g))]) [0, 1, 2] (by decide) rfl
              have hFc := va_free (wc := [(h0, .inr (0, [.ref a1, .ref a2, .int (nI w), .int (nI h), .int (nI kw), .int (nI kh)])), (a1, .inl (cA, 4096, .inl fd)), (a2, .inl (cB, 4096, .inl g))]) hD hS hA [0, 1, 2] rfl
              refine va_callv (va_runV (As := [.int (nI (64 * (8 * v0 + u0))), .int (nI (64 * (8 * u0 + v0)))]) (rest := []) ⟨hx, hb, hml, hown, hts⟩ (kX0_exchangeBlocks l dC dI H.size h0 a1 a2 cA cB fd g w h kw kh (8 * v0 + u0) (8 * u0 + v0) (by omega) (by omega)) (cwV 2 hts gX0_exchangeAcrossDiagonal_X0_exchangeBlocks rfl rfl rfl (by decide +kernel) ⟨Nat.le_of_ble_eq_true rfl, Nat.le_of_ble_eq_true rfl⟩) ⟨fun a U g mk q => by obtain ⟨q0, q1, qP, qK, qD⟩ := q; exact ⟨q0, q1, qP, va_K.moved (u := U) (U := U.calling g mk a) (Vm.Alike.refl U.vm) qK, qD⟩, va_recv hKc hPc (ci := 0) (q0 := 0) rfl rfl, fun U hU hW => ⟨rfl, by rw [hU], by rw [hU]; exact hPc, va_K.moved hW.alike hKc, hDc.weaken (fun _ _ _ _ => trivial)⟩⟩ rfl rfl hl.1 rfl (lv_room (Nat.le_of_ble_eq_true rfl)) dX0_exchangeAcrossDiagonal_25 ⟨Nat.le_of_ble_eq_true rfl, Nat.le_of_ble_eq_true rfl⟩) hS (fun q _ h => hFc q h) hFc (fun u25 t H1 locs ht hvm w25 hB hz1 hk1 hS => ?_)
              obtain ⟨hP1, -, hD1⟩ := hB
              rw [ht] at hP1
              try dsimp only at w25
              obtain ⟨hP, hD⟩ := va_join (wr := []) (w1 := [(h0, .inr (0, [.ref a1, .ref a2, .int (nI w), .int (nI h), .int (nI kw), .int (nI kh)])), (a1, .inl (cA, 4096, .inl u25)), (a2, .inl (cB, 4096, .inl g))]) hP hD [0, 1, 2] [] rfl rfl (by decide) (by decide) hk1 hFc hP1 hD1
              generalize H1 = H at hP hS ⊢
              have hP : va_P (dC, dI) vwCm [(h0, .inr (0, [.ref a1, .ref a2, .int (nI w), .int (nI h), .int (nI kw), .int (nI kh)])), (a1, .inl (cA, 4096, .inl u25)), (a2, .inl (cB, 4096, .inl g))] H := hP
              have hD : va_D A [(h0, .inr (0, [.ref a1, .ref a2, .int (nI w), .int (nI h), .int (nI kw), .int (nI kh)])), (a1, .inl (cA, 4096, .inl u25)), (a2, .inl (cB, 4096, .inl g))] := hD
              refine lv_iinc (v := nI (u0 + 1)) (lv' := [(3, .int (nI (u0 + 1))), (0, .ref h0), (1, .int (nI n)), (2, .int (nI v0))]) hx hb dX0_exchangeAcrossDiagonal_28 hl (k := 3) rfl (by rw [← nI_add]; rfl) (by decide) rfl (fun ls hl => ?_)
              refine lv_goto (tgt := 9) hx hb dX0_exchangeAcrossDiagonal_31 (by decide) ?_
              exact ih9 (u0 + 1) u25 (by omega) (by omega) (cf_xd_s hI1 (by omega) (by omega) w25) H locs hP hD hS ls (lv_sub hl [1, 2, 3, 0] rfl)
        exact lp9 (v0 + 1) 0 fc (by omega) (by omega) hI H locs hP hD hS ls (lv_sub hl [1, 2, 3, 0] rfl)
  exact lp2 (n + 1) 1 f (by omega) (by omega) cf_xd_0 s.heap [] hP hD hS ls (lv_sub hl [1, 2, 0] rfl)
set_option maxHeartbeats 4000000 in
set_option maxRecDepth 100000 in
/-- X0_fillBlock -/
theorem kX0_fillBlock (l : Launch) (dC : Nat → ClassId) (dI : Nat → Nat → Nat) (sz : Nat) (h0 a1 a2 : Nat) (cA cB : ClassId) (f g : Nat → Int32) (w h kw kh : Nat) (i : Nat) (seed : Int32) (hi : i < 64) : Met l yX0_fillBlock wsX0_fillBlock ({ frames := 0, cells := 0, slots := 0, locals := 0 }) (va_Pc [.ref h0, .int (nI (64 * i)), .int seed] (fun U => U.heap.size = sz ∧ va_P (dC, dI) vwCm [(h0, .inr (0, [.ref a1, .ref a2, .int (nI w), .int (nI h), .int (nI kw), .int (nI kh)])), (a1, .inl (cA, 4096, .inl f)), (a2, .inl (cB, 4096, .inl g))] U.heap ∧ va_K (dC, dI) vwCm [(cA, .int), (cB, .int)] U ∧ va_D (fun _ => True) [(h0, .inr (0, [.ref a1, .ref a2, .int (nI w), .int (nI h), .int (nI kw), .int (nI kh)])), (a1, .inl (cA, 4096, .inl f)), (a2, .inl (cB, 4096, .inl g))])) (va_Qv (fun u : Nat → Int32 => cf_fb i (cf_fil seed) f u) (fun (u : Nat → Int32) (t : State) => va_P (dC, dI) vwCm [(h0, .inr (0, [.ref a1, .ref a2, .int (nI w), .int (nI h), .int (nI kw), .int (nI kh)])), (a1, .inl (cA, 4096, .inl u)), (a2, .inl (cB, 4096, .inl g))] t.heap ∧ va_K (dC, dI) vwCm [(cA, .int), (cB, .int)] t ∧ va_D (va_A [(h0, .inr (0, [.ref a1, .ref a2, .int (nI w), .int (nI h), .int (nI kw), .int (nI kh)])), (a1, .inl (cA, 4096, .inl f)), (a2, .inl (cB, 4096, .inl g))] sz) [(h0, .inr (0, [.ref a1, .ref a2, .int (nI w), .int (nI h), .int (nI kw), .int (nI kh)])), (a1, .inl (cA, 4096, .inl u)), (a2, .inl (cB, 4096, .inl g))]) (va_A [(h0, .inr (0, [.ref a1, .ref a2, .int (nI w), .int (nI h), .int (nI kw), .int (nI kh)])), (a1, .inl (cA, 4096, .inl f)), (a2, .inl (cB, 4096, .inl g))] sz)) 0 0 (va_A [(h0, .inr (0, [.ref a1, .ref a2, .int (nI w), .int (nI h), .int (nI kw), .int (nI kh)])), (a1, .inl (cA, 4096, .inl f)), (a2, .inl (cB, 4096, .inl g))] sz) := by
  refine Met.ofW (cc := cX0_fillBlock) (maxL := 5) (ret := none) (by decide) rfl ?_
  intro p e s m args below meth c s₁ B hml hv
  obtain ⟨rfl, hsz, hP, hK, hD0⟩ := hv
  have hx := B.exec
  have hb := B.bytes
  have hr := B.returns
  have hts := atoms_spec (ws := wsX0_fillBlock) B.pre
  have hown : s.vm.findClass RX0 = some m.cls := findClass_of_methodNamed B.named
  have hlocks := B.notSynchronized
  subst hsz
  have hD := hD0.self (sz := s.heap.size)
  generalize hAe : va_A [(h0, .inr (0, [.ref a1, .ref a2, .int (nI w), .int (nI h), .int (nI kw), .int (nI kh)])), (a1, .inl (cA, 4096, .inl f)), (a2, .inl (cB, 4096, .inl g))] s.heap.size = A at hD ⊢
  have hA : ∀ q : Nat, s.heap.size ≤ q → A q := fun q h => by rw [← hAe]; exact Or.inr h
  have hS : va_S A s.heap s.heap [] := va_S.rf
  have hP : va_P (dC, dI) vwCm [(h0, .inr (0, [.ref a1, .ref a2, .int (nI w), .int (nI h), .int (nI kw), .int (nI kh)])), (a1, .inl (cA, 4096, .inl f)), (a2, .inl (cB, 4096, .inl g))] s.heap := hP
  have hl := lv_entry ([.ref h0, .int (nI (64 * i)), .int seed]) (n := 5) (Nat.le_of_ble_eq_true rfl)
  rw [lg_entry_eq]
  generalize (lg_sl ([.ref h0, .int (nI (64 * i)), .int seed]) ++ List.replicate (5 - (lg_sl ([.ref h0, .int (nI (64 * i)), .int seed])).length) Slot.unset).toArray = ls at hl ⊢
  have hl : lv_has ls 5 [(0, .ref h0), (1, .int (nI (64 * i))), (2, .int seed)] := hl
  refine lv_iload_n hx hb dX0_fillBlock_0 rfl (lv_at hl 1 rfl) ?_
  refine lv_istore_n (lv' := [(3, .int (nI (64 * i))), (0, .ref h0), (1, .int (nI (64 * i))), (2, .int seed)]) hx hb dX0_fillBlock_1 rfl hl (by decide) rfl (fun ls hl => ?_)
  have lp2 : ∀ (n2 : Nat) (k : Nat) (fc : Nat → Int32), k ≤ 64 * i + 64 → 64 * i + 64 < k + n2 → cf_fk i (cf_fil seed) k f fc → 64 * i ≤ k → ∀ (H : Heap) (locs : List Loc), va_P (dC, dI) vwCm [(h0, .inr (0, [.ref a1, .ref a2, .int (nI w), .int (nI h), .int (nI kw), .int (nI kh)])), (a1, .inl (cA, 4096, .inl fc)), (a2, .inl (cB, 4096, .inl g))] H → va_D A [(h0, .inr (0, [.ref a1, .ref a2, .int (nI w), .int (nI h), .int (nI kw), .int (nI kh)])), (a1, .inl (cA, 4096, .inl fc)), (a2, .inl (cB, 4096, .inl g))] → va_S A s.heap H locs → ∀ (ls : Array Slot), lv_has ls 5 [(0, .ref h0), (1, .int (nI (64 * i))), (2, .int seed), (3, .int (nI k))] → W p l e (headSpec wsX0_fillBlock ({ frames := 0, cells := 0, slots := 0, locals := 0 })).room s m ([.ref h0, .int (nI (64 * i)), .int seed] : List Value).toArray below meth c H locs 0 0 (MQ below (va_Qv (fun u : Nat → Int32 => cf_fb i (cf_fil seed) f u) (fun (u : Nat → Int32) (t : State) => va_P (dC, dI) vwCm [(h0, .inr (0, [.ref a1, .ref a2, .int (nI w), .int (nI h), .int (nI kw), .int (nI kh)])), (a1, .inl (cA, 4096, .inl u)), (a2, .inl (cB, 4096, .inl g))] t.heap ∧ va_K (dC, dI) vwCm [(cA, .int), (cB, .int)] t ∧ va_D A [(h0, .inr (0, [.ref a1, .ref a2, .int (nI w), .int (nI h), .int (nI kw), .int (nI kh)])), (a1, .inl (cA, 4096, .inl u)), (a2, .inl (cB, 4096, .inl g))]) A) ([.ref h0, .int (nI (64 * i)), .int seed] : List Value).toArray s 0 0 A) (F0 m 2 ls []) := by
    intro n2
    induction n2 with
    | zero => intro k fc h1 h2; exact absurd h2 (by omega)
    | succ n2 ih2 =>
      intro k fc hk2 hn2 hI hk2 H locs hP hD hS ls hl
      refine lv_iload_n hx hb dX0_fillBlock_2 rfl (lv_at hl 3 rfl) ?_
      refine lv_iload_n hx hb dX0_fillBlock_3 rfl (lv_at hl 1 rfl) ?_
      refine lv_bipush (v := nI 64) hx hb dX0_fillBlock_4 (by decide +kernel) ?_
      refine lv_iadd hx hb dX0_fillBlock_6 ?_
      refine cf_top (nI_add _ _) ?_
      refine lv_icmp_ge (tgt := 46) hx hb dX0_fillBlock_7 (by decide) (fun c7 => ?_) (fun c7 => ?_)
      · skip
        have c7 := (nI_leI (a := 64 * i + 64) (b := k) (by omega) (by omega)).mp c7
        have hP9 := hP.sub (ws' := [(h0, .inr (0, [.ref a1, .ref a2, .int (nI w), .int (nI h), .int (nI kw), .int (nI kh)])), (a1, .inl (cA, 4096, .inl fc)), (a2, .inl (cB, 4096, .inl g))]) [0, 1, 2] rfl
        have hD9 := hD.sub (ws' := [(h0, .inr (0, [.ref a1, .ref a2, .int (nI w), .int (nI h), .int (nI kw), .int (nI kh)])), (a1, .inl (cA, 4096, .inl fc)), (a2, .inl (cB, 4096, .inl g))]) [0, 1, 2] (by decide) rfl
        exact W.vret hx hb hr (fun t ht hW => ⟨⟨fc, rfl, (by have e : k = 64 * i + 64 := (by omega); rw [e] at hI; exact hI), by rw [ht]; exact hP9, va_K.moved hW.alike hK, hD9⟩, hS.F ht⟩) hS.2.2 dX0_fillBlock_46
      · skip
        have c7 := mt (nI_leI (a := 64 * i + 64) (b := k) (by omega) (by omega)).mpr c7
        refine lv_iload_n hx hb dX0_fillBlock_10 rfl (lv_at hl 2 rfl) ?_
        refine lv_iload_n hx hb dX0_fillBlock_11 rfl (lv_at hl 3 rfl) ?_
        refine lv_ldc (v := nI 40503) hx hb hown (hts (.constant RX0 110 40503) (by decide +kernel)) dX0_fillBlock_12 ?_
        refine lv_imul hx hb dX0_fillBlock_14 ?_
        refine lv_iadd hx hb dX0_fillBlock_15 ?_
        refine lv_ldc (v := (-1640531535)) hx hb hown (hts (.constant RX0 111 ((-1640531535))) (by decide +kernel)) dX0_fillBlock_16 ?_
        refine lv_imul hx hb dX0_fillBlock_18 ?_
        refine lv_istore (lv' := [(4, .int ((seed + ((nI k) * (nI 40503))) * ((-1640531535)))), (0, .ref h0), (1, .int (nI (64 * i))), (2, .int seed), (3, .int (nI k))]) hx hb dX0_fillBlock_19 hl (by decide) rfl (fun ls hl => ?_)
        refine lv_aload_n hx hb dX0_fillBlock_21 rfl (lv_at hl 1 rfl) ?_
        refine va_get (D := (dC, dI)) (ci := 0) (v := .ref a1) (C := RX0) (T := TX0) (N := 6) hx hb hts (by decide +kernel) hown hK hP 0 rfl rfl 0 (by decide) (hts (.fieldLink RX0 26 "CoefTurns" "cells" "[I") (by decide +kernel)) (fun _ h9 => h9) rfl dX0_fillBlock_22 ?_
        refine lv_iload_n hx hb dX0_fillBlock_25 rfl (lv_at hl 4 rfl) ?_
        refine lv_iload hx hb dX0_fillBlock_26 (lv_at hl 0 rfl) ?_
        refine lv_bipush (v := nI 20) hx hb dX0_fillBlock_28 (by decide +kernel) ?_
        refine lv_iushr hx hb dX0_fillBlock_30 rfl ?_
        refine lv_sipush (v := nI 2047) hx hb dX0_fillBlock_31 (by decide +kernel) ?_
        refine lv_irem hx hb dX0_fillBlock_34 (nI_ne0 (by omega) (by omega)) ?_
        refine lv_sipush (v := nI 1023) hx hb dX0_fillBlock_35 (by decide +kernel) ?_
        refine lv_isub hx hb dX0_fillBlock_38 ?_
        refine cf_iast (D := (dC, dI)) hx hb hK hP hD hS 1 0 rfl rfl (k := k) (by omega) (by decide) dX0_fillBlock_39 (fun H locs hP hD hS => ?_)
        have hP : va_P (dC, dI) vwCm [(h0, .inr (0, [.ref a1, .ref a2, .int (nI w), .int (nI h), .int (nI kw), .int (nI kh)])), (a1, .inl (cA, 4096, .inl (upd fc k ((((((seed + ((nI k) * (nI 40503))) * ((-1640531535))).toUInt32 >>> ((nI 20).toUInt32 &&& Int32.toUInt32 31)).toInt32) - ((((seed + ((nI k) * (nI 40503))) * ((-1640531535))).toUInt32 >>> ((nI 20).toUInt32 &&& Int32.toUInt32 31)).toInt32) / (nI 2047) * (nI 2047)) - (nI 1023))))), (a2, .inl (cB, 4096, .inl g))] H := hP
        have hD : va_D A [(h0, .inr (0, [.ref a1, .ref a2, .int (nI w), .int (nI h), .int (nI kw), .int (nI kh)])), (a1, .inl (cA, 4096, .inl (upd fc k ((((((seed + ((nI k) * (nI 40503))) * ((-1640531535))).toUInt32 >>> ((nI 20).toUInt32 &&& Int32.toUInt32 31)).toInt32) - ((((seed + ((nI k) * (nI 40503))) * ((-1640531535))).toUInt32 >>> ((nI 20).toUInt32 &&& Int32.toUInt32 31)).toInt32) / (nI 2047) * (nI 2047)) - (nI 1023))))), (a2, .inl (cB, 4096, .inl g))] := hD
        refine lv_iinc (v := nI (k + 1)) (lv' := [(3, .int (nI (k + 1))), (4, .int ((seed + ((nI k) * (nI 40503))) * ((-1640531535)))), (0, .ref h0), (1, .int (nI (64 * i))), (2, .int seed)]) hx hb dX0_fillBlock_40 hl (k := 4) rfl (by rw [← nI_add]; rfl) (by decide) rfl (fun ls hl => ?_)
        refine lv_goto (tgt := 2) hx hb dX0_fillBlock_43 (by decide) ?_
        exact ih2 (k + 1) (upd fc k ((((((seed + ((nI k) * (nI 40503))) * ((-1640531535))).toUInt32 >>> ((nI 20).toUInt32 &&& Int32.toUInt32 31)).toInt32) - ((((seed + ((nI k) * (nI 40503))) * ((-1640531535))).toUInt32 >>> ((nI 20).toUInt32 &&& Int32.toUInt32 31)).toInt32) / (nI 2047) * (nI 2047)) - (nI 1023))) (by omega) (by omega) (cf_fk_s hI hk2) (by omega) H locs hP hD hS ls (lv_sub hl [2, 3, 4, 0] rfl)
  exact lp2 (64 * i + 64 + 1) (64 * i) f (by omega) (by omega) cf_fk_0 (Nat.le_refl _) s.heap [] hP hD hS ls (lv_sub hl [1, 2, 3, 0] rfl)
set_option maxHeartbeats 4000000 in
set_option maxRecDepth 100000 in
/-- X0_negatePlaces -/
theorem kX0_negatePlaces (l : Launch) (dC : Nat → ClassId) (dI : Nat → Nat → Nat) (sz : Nat) (h0 a1 a2 : Nat) (cA cB : ClassId) (f g : Nat → Int32) (w h kw kh : Nat) (b : Nat) (hw : w ≤ 8) (hh : h ≤ 8) (hb1 : b = 1 ∨ b = 8) : Met l yX0_negatePlaces wsX0_negatePlaces ({ frames := 1, cells := 0, slots := 0, locals := 21 }) (va_Pc [.ref h0, .int (nI b)] (fun U => U.heap.size = sz ∧ va_P (dC, dI) vwCm [(h0, .inr (0, [.ref a1, .ref a2, .int (nI w), .int (nI h), .int (nI kw), .int (nI kh)])), (a1, .inl (cA, 4096, .inl f)), (a2, .inl (cB, 4096, .inl g))] U.heap ∧ va_K (dC, dI) vwCm [(cA, .int), (cB, .int)] U ∧ va_D (fun _ => True) [(h0, .inr (0, [.ref a1, .ref a2, .int (nI w), .int (nI h), .int (nI kw), .int (nI kh)])), (a1, .inl (cA, 4096, .inl f)), (a2, .inl (cB, 4096, .inl g))])) (va_Qv (fun u : Nat → Int32 => cf_Ag w h (cf_V u) (cf_nG b (cf_V f))) (fun (u : Nat → Int32) (t : State) => va_P (dC, dI) vwCm [(h0, .inr (0, [.ref a1, .ref a2, .int (nI w), .int (nI h), .int (nI kw), .int (nI kh)])), (a1, .inl (cA, 4096, .inl u)), (a2, .inl (cB, 4096, .inl g))] t.heap ∧ va_K (dC, dI) vwCm [(cA, .int), (cB, .int)] t ∧ va_D (va_A [(h0, .inr (0, [.ref a1, .ref a2, .int (nI w), .int (nI h), .int (nI kw), .int (nI kh)])), (a1, .inl (cA, 4096, .inl f)), (a2, .inl (cB, 4096, .inl g))] sz) [(h0, .inr (0, [.ref a1, .ref a2, .int (nI w), .int (nI h), .int (nI kw), .int (nI kh)])), (a1, .inl (cA, 4096, .inl u)), (a2, .inl (cB, 4096, .inl g))]) (va_A [(h0, .inr (0, [.ref a1, .ref a2, .int (nI w), .int (nI h), .int (nI kw), .int (nI kh)])), (a1, .inl (cA, 4096, .inl f)), (a2, .inl (cB, 4096, .inl g))] sz)) 0 0 (va_A [(h0, .inr (0, [.ref a1, .ref a2, .int (nI w), .int (nI h), .int (nI kw), .int (nI kh)])), (a1, .inl (cA, 4096, .inl f)), (a2, .inl (cB, 4096, .inl g))] sz) := by
  refine Met.ofW (cc := cX0_negatePlaces) (maxL := 5) (ret := none) (by decide) rfl ?_
  intro p e s m args below meth c s₁ B hml hv
  obtain ⟨rfl, hsz, hP, hK, hD0⟩ := hv
  have hx := B.exec
  have hb := B.bytes
  have hr := B.returns
  have hts := atoms_spec (ws := wsX0_negatePlaces) B.pre
  have hown : s.vm.findClass RX0 = some m.cls := findClass_of_methodNamed B.named
  have hlocks := B.notSynchronized
  subst hsz
  have hD := hD0.self (sz := s.heap.size)
  generalize hAe : va_A [(h0, .inr (0, [.ref a1, .ref a2, .int (nI w), .int (nI h), .int (nI kw), .int (nI kh)])), (a1, .inl (cA, 4096, .inl f)), (a2, .inl (cB, 4096, .inl g))] s.heap.size = A at hD ⊢
  have hA : ∀ q : Nat, s.heap.size ≤ q → A q := fun q h => by rw [← hAe]; exact Or.inr h
  have hS : va_S A s.heap s.heap [] := va_S.rf
  have hP : va_P (dC, dI) vwCm [(h0, .inr (0, [.ref a1, .ref a2, .int (nI w), .int (nI h), .int (nI kw), .int (nI kh)])), (a1, .inl (cA, 4096, .inl f)), (a2, .inl (cB, 4096, .inl g))] s.heap := hP
  have hl := lv_entry ([.ref h0, .int (nI b)]) (n := 5) (Nat.le_of_ble_eq_true rfl)
  rw [lg_entry_eq]
  generalize (lg_sl ([.ref h0, .int (nI b)]) ++ List.replicate (5 - (lg_sl ([.ref h0, .int (nI b)])).length) Slot.unset).toArray = ls at hl ⊢
  have hl : lv_has ls 5 [(0, .ref h0), (1, .int (nI b))] := hl
  refine lv_iconst (v := nI 0) hx hb dX0_negatePlaces_0 (by decide +kernel) ?_
  refine lv_istore_n (lv' := [(2, .int (nI 0)), (0, .ref h0), (1, .int (nI b))]) hx hb dX0_negatePlaces_1 rfl hl (by decide) rfl (fun ls hl => ?_)
  have lp2 : ∀ (n2 : Nat) (y0 : Nat) (fc : Nat → Int32), y0 ≤ h → h < y0 + n2 → cf_ng b w y0 0 f fc → ∀ (H : Heap) (locs : List Loc), va_P (dC, dI) vwCm [(h0, .inr (0, [.ref a1, .ref a2, .int (nI w), .int (nI h), .int (nI kw), .int (nI kh)])), (a1, .inl (cA, 4096, .inl fc)), (a2, .inl (cB, 4096, .inl g))] H → va_D A [(h0, .inr (0, [.ref a1, .ref a2, .int (nI w), .int (nI h), .int (nI kw), .int (nI kh)])), (a1, .inl (cA, 4096, .inl fc)), (a2, .inl (cB, 4096, .inl g))] → va_S A s.heap H locs → ∀ (ls : Array Slot), lv_has ls 5 [(0, .ref h0), (1, .int (nI b)), (2, .int (nI y0))] → W p l e (headSpec wsX0_negatePlaces ({ frames := 1, cells := 0, slots := 0, locals := 21 })).room s m ([.ref h0, .int (nI b)] : List Value).toArray below meth c H locs 0 0 (MQ below (va_Qv (fun u : Nat → Int32 => cf_Ag w h (cf_V u) (cf_nG b (cf_V f))) (fun (u : Nat → Int32) (t : State) => va_P (dC, dI) vwCm [(h0, .inr (0, [.ref a1, .ref a2, .int (nI w), .int (nI h), .int (nI kw), .int (nI kh)])), (a1, .inl (cA, 4096, .inl u)), (a2, .inl (cB, 4096, .inl g))] t.heap ∧ va_K (dC, dI) vwCm [(cA, .int), (cB, .int)] t ∧ va_D A [(h0, .inr (0, [.ref a1, .ref a2, .int (nI w), .int (nI h), .int (nI kw), .int (nI kh)])), (a1, .inl (cA, 4096, .inl u)), (a2, .inl (cB, 4096, .inl g))]) A) ([.ref h0, .int (nI b)] : List Value).toArray s 0 0 A) (F0 m 2 ls []) := by
    intro n2
    induction n2 with
    | zero => intro y0 fc h1 h2; exact absurd h2 (by omega)
    | succ n2 ih2 =>
      intro y0 fc hk2 hn2 hI H locs hP hD hS ls hl
      refine lv_iload_n hx hb dX0_negatePlaces_2 rfl (lv_at hl 2 rfl) ?_
      refine lv_aload_n hx hb dX0_negatePlaces_3 rfl (lv_at hl 0 rfl) ?_
      refine va_get (D := (dC, dI)) (ci := 0) (v := .int (nI h)) (C := RX0) (T := TX0) (N := 6) hx hb hts (by decide +kernel) hown hK hP 0 rfl rfl 3 (by decide) (hts (.fieldLink RX0 17 "CoefTurns" "height" "I") (by decide +kernel)) (fun _ h9 => h9) rfl dX0_negatePlaces_4 ?_
      refine lv_icmp_ge (tgt := 66) hx hb dX0_negatePlaces_7 (by decide) (fun c7 => ?_) (fun c7 => ?_)
      · skip
        have c7 := (nI_leI (a := h) (b := y0) (by omega) (by omega)).mp c7
        have hP9 := hP.sub (ws' := [(h0, .inr (0, [.ref a1, .ref a2, .int (nI w), .int (nI h), .int (nI kw), .int (nI kh)])), (a1, .inl (cA, 4096, .inl fc)), (a2, .inl (cB, 4096, .inl g))]) [0, 1, 2] rfl
        have hD9 := hD.sub (ws' := [(h0, .inr (0, [.ref a1, .ref a2, .int (nI w), .int (nI h), .int (nI kw), .int (nI kh)])), (a1, .inl (cA, 4096, .inl fc)), (a2, .inl (cB, 4096, .inl g))]) [0, 1, 2] (by decide) rfl
        exact W.vret hx hb hr (fun t ht hW => ⟨⟨fc, rfl, (by have e : y0 = h := (by omega); rw [e] at hI; exact cf_ng_e hI), by rw [ht]; exact hP9, va_K.moved hW.alike hK, hD9⟩, hS.F ht⟩) hS.2.2 dX0_negatePlaces_66
      · skip
        have c7 := mt (nI_leI (a := h) (b := y0) (by omega) (by omega)).mpr c7
        refine lv_aload_n hx hb dX0_negatePlaces_10 rfl (lv_at hl 0 rfl) ?_
        refine va_get (D := (dC, dI)) (ci := 0) (v := .int (nI w)) (C := RX0) (T := TX0) (N := 6) hx hb hts (by decide +kernel) hown hK hP 0 rfl rfl 2 (by decide) (hts (.fieldLink RX0 13 "CoefTurns" "width" "I") (by decide +kernel)) (fun _ h9 => h9) rfl dX0_negatePlaces_11 ?_
        refine lv_iload_n hx hb dX0_negatePlaces_14 rfl (lv_at hl 2 rfl) ?_
        refine vp_callSi (W.runS (As := [.int (nI w), .int (nI y0)]) (rest := []) ⟨hx, hb, hml, hown, hts⟩ (kX0_blockStart l w y0) (va_cwS 2 hts gX0_negatePlaces_X0_blockStart rfl rfl rfl (by decide +kernel) ⟨Nat.le_of_ble_eq_true rfl, Nat.le_of_ble_eq_true rfl⟩) ⟨fun a U g mk q => q, fun U hU hW => ⟨rfl, trivial⟩⟩ rfl rfl hl.1 rfl (lv_room (Nat.le_of_ble_eq_true rfl)) dX0_negatePlaces_15 ⟨Nat.le_of_ble_eq_true rfl, Nat.le_of_ble_eq_true rfl⟩) (fun r15 w15 => ?_)
        subst w15
        refine lv_istore_n (lv' := [(3, .int (nI (64 * (8 * y0 + w)))), (0, .ref h0), (1, .int (nI b)), (2, .int (nI y0))]) hx hb dX0_negatePlaces_18 rfl hl (by decide) rfl (fun ls hl => ?_)
        refine lv_iconst (v := nI 0) hx hb dX0_negatePlaces_19 (by decide +kernel) ?_
        refine lv_iload_n hx hb dX0_negatePlaces_20 rfl (lv_at hl 3 rfl) ?_
        refine vp_callSi (W.runS (As := [.int (nI 0), .int (nI y0)]) (rest := []) ⟨hx, hb, hml, hown, hts⟩ (kX0_blockStart l 0 y0) (va_cwS 2 hts gX0_negatePlaces_X0_blockStart rfl rfl rfl (by decide +kernel) ⟨Nat.le_of_ble_eq_true rfl, Nat.le_of_ble_eq_true rfl⟩) ⟨fun a U g mk q => q, fun U hU hW => ⟨rfl, trivial⟩⟩ rfl rfl hl.1 rfl (lv_room (Nat.le_of_ble_eq_true rfl)) dX0_negatePlaces_21 ⟨Nat.le_of_ble_eq_true rfl, Nat.le_of_ble_eq_true rfl⟩) (fun r21 w21 => ?_)
        subst w21
        refine lv_istore (lv' := [(4, .int (nI (64 * (8 * y0 + 0)))), (3, .int (nI (64 * (8 * y0 + w)))), (0, .ref h0), (1, .int (nI b)), (2, .int (nI y0))]) hx hb dX0_negatePlaces_24 hl (by decide) rfl (fun ls hl => ?_)
        have lp26 : ∀ (n26 : Nat) (k : Nat) (fd : Nat → Int32), k ≤ 64 * (8 * y0 + w) → 64 * (8 * y0 + w) < k + n26 → cf_ng b w y0 (k - 512 * y0) f fd → 512 * y0 ≤ k → ∀ (H : Heap) (locs : List Loc), va_P (dC, dI) vwCm [(h0, .inr (0, [.ref a1, .ref a2, .int (nI w), .int (nI h), .int (nI kw), .int (nI kh)])), (a1, .inl (cA, 4096, .inl fd)), (a2, .inl (cB, 4096, .inl g))] H → va_D A [(h0, .inr (0, [.ref a1, .ref a2, .int (nI w), .int (nI h), .int (nI kw), .int (nI kh)])), (a1, .inl (cA, 4096, .inl fd)), (a2, .inl (cB, 4096, .inl g))] → va_S A s.heap H locs → ∀ (ls : Array Slot), lv_has ls 5 [(0, .ref h0), (1, .int (nI b)), (2, .int (nI y0)), (3, .int (nI (64 * (8 * y0 + w)))), (4, .int (nI k))] → W p l e (headSpec wsX0_negatePlaces ({ frames := 1, cells := 0, slots := 0, locals := 21 })).room s m ([.ref h0, .int (nI b)] : List Value).toArray below meth c H locs 0 0 (MQ below (va_Qv (fun u : Nat → Int32 => cf_Ag w h (cf_V u) (cf_nG b (cf_V f))) (fun (u : Nat → Int32) (t : State) => va_P (dC, dI) vwCm [(h0, .inr (0, [.ref a1, .ref a2, .int (nI w), .int (nI h), .int (nI kw), .int (nI kh)])), (a1, .inl (cA, 4096, .inl u)), (a2, .inl (cB, 4096, .inl g))] t.heap ∧ va_K (dC, dI) vwCm [(cA, .int), (cB, .int)] t ∧ va_D A [(h0, .inr (0, [.ref a1, .ref a2, .int (nI w), .int (nI h), .int (nI kw), .int (nI kh)])), (a1, .inl (cA, 4096, .inl u)), (a2, .inl (cB, 4096, .inl g))]) A) ([.ref h0, .int (nI b)] : List Value).toArray s 0 0 A) (F0 m 26 ls []) := by
          intro n26
          induction n26 with
          | zero => intro k fd h1 h2; exact absurd h2 (by omega)
          | succ n26 ih26 =>
            intro k fd hk26 hn26 hI1 hk1 H locs hP hD hS ls hl
            refine lv_iload hx hb dX0_negatePlaces_26 (lv_at hl 4 rfl) ?_
            refine lv_iload_n hx hb dX0_negatePlaces_28 rfl (lv_at hl 3 rfl) ?_
            refine lv_icmp_ge (tgt := 60) hx hb dX0_negatePlaces_29 (by decide) (fun c29 => ?_) (fun c29 => ?_)
            · skip
              have c29 := (nI_leI (a := 64 * (8 * y0 + w)) (b := k) (by omega) (by omega)).mp c29
              refine lv_iinc (v := nI (y0 + 1)) (lv' := [(2, .int (nI (y0 + 1))), (0, .ref h0), (1, .int (nI b)), (3, .int (nI (64 * (8 * y0 + w)))), (4, .int (nI k))]) hx hb dX0_negatePlaces_60 hl (k := 2) rfl (by rw [← nI_add]; rfl) (by decide) rfl (fun ls hl => ?_)
              refine lv_goto (tgt := 2) hx hb dX0_negatePlaces_63 (by decide) ?_
              exact ih2 (y0 + 1) fd (by omega) (by omega) (cf_ng_w hI1 (by omega)) H locs hP hD hS ls (lv_sub hl [1, 2, 0] rfl)
            · skip
              have c29 := mt (nI_leI (a := 64 * (8 * y0 + w)) (b := k) (by omega) (by omega)).mpr c29
              refine lv_iload hx hb dX0_negatePlaces_32 (lv_at hl 4 rfl) ?_
              refine lv_iload_n hx hb dX0_negatePlaces_34 rfl (lv_at hl 1 rfl) ?_
              refine lv_iand hx hb dX0_negatePlaces_35 ?_
              refine lv_if_eq (tgt := 54) hx hb dX0_negatePlaces_36 (by decide) (fun c36 => ?_) (fun c36 => ?_)
              · skip
                refine lv_iinc (v := nI (k + 1)) (lv' := [(4, .int (nI (k + 1))), (0, .ref h0), (1, .int (nI b)), (2, .int (nI y0)), (3, .int (nI (64 * (8 * y0 + w))))]) hx hb dX0_negatePlaces_54 hl (k := 4) rfl (by rw [← nI_add]; rfl) (by decide) rfl (fun ls hl => ?_)
                refine lv_goto (tgt := 26) hx hb dX0_negatePlaces_57 (by decide) ?_
                exact ih26 (k + 1) fd (by omega) (by omega) (by first | exact cf_ng_n2 hI1 hb1 hw hk1 (by omega) ((cf_bit b hb1 k (by omega)).mp c36) | exact cf_ng_k2 hI1 hb1 hw hk1 (by omega) (fun o => (cf_bit b hb1 k (by omega)).mpr o c36)) (by omega) H locs hP hD hS ls (lv_sub hl [1, 2, 3, 4, 0] rfl)
              · skip
                refine lv_aload_n hx hb dX0_negatePlaces_39 rfl (lv_at hl 0 rfl) ?_
                refine va_get (D := (dC, dI)) (ci := 0) (v := .ref a1) (C := RX0) (T := TX0) (N := 6) hx hb hts (by decide +kernel) hown hK hP 0 rfl rfl 0 (by decide) (hts (.fieldLink RX0 26 "CoefTurns" "cells" "[I") (by decide +kernel)) (fun _ h9 => h9) rfl dX0_negatePlaces_40 ?_
                refine lv_iload hx hb dX0_negatePlaces_43 (lv_at hl 4 rfl) ?_
                refine lv_aload_n hx hb dX0_negatePlaces_45 rfl (lv_at hl 0 rfl) ?_
                refine va_get (D := (dC, dI)) (ci := 0) (v := .ref a1) (C := RX0) (T := TX0) (N := 6) hx hb hts (by decide +kernel) hown hK hP 0 rfl rfl 0 (by decide) (hts (.fieldLink RX0 26 "CoefTurns" "cells" "[I") (by decide +kernel)) (fun _ h9 => h9) rfl dX0_negatePlaces_46 ?_
                refine lv_iload hx hb dX0_negatePlaces_49 (lv_at hl 4 rfl) ?_
                refine cf_iald (D := (dC, dI)) hx hb hK hP 1 0 rfl rfl (k := k) (by omega) (by decide) dX0_negatePlaces_51 ?_
                refine lv_ineg hx hb dX0_negatePlaces_52 ?_
                refine cf_iast (D := (dC, dI)) hx hb hK hP hD hS 1 0 rfl rfl (k := k) (by omega) (by decide) dX0_negatePlaces_53 (fun H locs hP hD hS => ?_)
                have hP : va_P (dC, dI) vwCm [(h0, .inr (0, [.ref a1, .ref a2, .int (nI w), .int (nI h), .int (nI kw), .int (nI kh)])), (a1, .inl (cA, 4096, .inl (upd fd k (-(fd k))))), (a2, .inl (cB, 4096, .inl g))] H := hP
                have hD : va_D A [(h0, .inr (0, [.ref a1, .ref a2, .int (nI w), .int (nI h), .int (nI kw), .int (nI kh)])), (a1, .inl (cA, 4096, .inl (upd fd k (-(fd k))))), (a2, .inl (cB, 4096, .inl g))] := hD
                refine lv_iinc (v := nI (k + 1)) (lv' := [(4, .int (nI (k + 1))), (0, .ref h0), (1, .int (nI b)), (2, .int (nI y0)), (3, .int (nI (64 * (8 * y0 + w))))]) hx hb dX0_negatePlaces_54 hl (k := 4) rfl (by rw [← nI_add]; rfl) (by decide) rfl (fun ls hl => ?_)
                refine lv_goto (tgt := 26) hx hb dX0_negatePlaces_57 (by decide) ?_
                exact ih26 (k + 1) (upd fd k (-(fd k))) (by omega) (by omega) (by first | exact cf_ng_n2 hI1 hb1 hw hk1 (by omega) ((cf_bit b hb1 k (by omega)).mp c36) | exact cf_ng_k2 hI1 hb1 hw hk1 (by omega) (fun o => (cf_bit b hb1 k (by omega)).mpr o c36)) (by omega) H locs hP hD hS ls (lv_sub hl [1, 2, 3, 4, 0] rfl)
        exact lp26 (64 * (8 * y0 + w) + 1) (64 * (8 * y0 + 0)) fc (by omega) (by omega) (cf_ng_z hI (by omega)) (by omega) H locs hP hD hS ls (lv_sub hl [2, 3, 4, 1, 0] rfl)
  exact lp2 (h + 1) 0 f (by omega) (by omega) cf_ng_0 s.heap [] hP hD hS ls (lv_sub hl [1, 2, 0] rfl)
end
section
set_option maxHeartbeats 4000000 in
set_option maxRecDepth 100000 in
/-- X0_fill -/
theorem kX0_fill (l : Launch) (dC : Nat → ClassId) (dI : Nat → Nat → Nat) (sz : Nat) (h0 a1 a2 : Nat) (cA cB : ClassId) (f g : Nat → Int32) (w h kw kh : Nat) (seed : Int32) (hw : w ≤ 8) (hh : h ≤ 8) : Met l yX0_fill wsX0_fill ({ frames := 1, cells := 0, slots := 0, locals := 24 }) (va_Pc [.ref h0, .int seed] (fun U => U.heap.size = sz ∧ va_P (dC, dI) vwCm [(h0, .inr (0, [.ref a1, .ref a2, .int (nI w), .int (nI h), .int (nI kw), .int (nI kh)])), (a1, .inl (cA, 4096, .inl f)), (a2, .inl (cB, 4096, .inl g))] U.heap ∧ va_K (dC, dI) vwCm [(cA, .int), (cB, .int)] U ∧ va_D (fun _ => True) [(h0, .inr (0, [.ref a1, .ref a2, .int (nI w), .int (nI h), .int (nI kw), .int (nI kh)])), (a1, .inl (cA, 4096, .inl f)), (a2, .inl (cB, 4096, .inl g))])) (va_Qv (fun u : Nat → Int32 => cf_Ag w h (cf_V u) (cf_V (cf_fil seed))) (fun (u : Nat → Int32) (t : State) => va_P (dC, dI) vwCm [(h0, .inr (0, [.ref a1, .ref a2, .int (nI w), .int (nI h), .int (nI kw), .int (nI kh)])), (a1, .inl (cA, 4096, .inl u)), (a2, .inl (cB, 4096, .inl g))] t.heap ∧ va_K (dC, dI) vwCm [(cA, .int), (cB, .int)] t ∧ va_D (va_A [(h0, .inr (0, [.ref a1, .ref a2, .int (nI w), .int (nI h), .int (nI kw), .int (nI kh)])), (a1, .inl (cA, 4096, .inl f)), (a2, .inl (cB, 4096, .inl g))] sz) [(h0, .inr (0, [.ref a1, .ref a2, .int (nI w), .int (nI h), .int (nI kw), .int (nI kh)])), (a1, .inl (cA, 4096, .inl u)), (a2, .inl (cB, 4096, .inl g))]) (va_A [(h0, .inr (0, [.ref a1, .ref a2, .int (nI w), .int (nI h), .int (nI kw), .int (nI kh)])), (a1, .inl (cA, 4096, .inl f)), (a2, .inl (cB, 4096, .inl g))] sz)) 0 0 (va_A [(h0, .inr (0, [.ref a1, .ref a2, .int (nI w), .int (nI h), .int (nI kw), .int (nI kh)])), (a1, .inl (cA, 4096, .inl f)), (a2, .inl (cB, 4096, .inl g))] sz) := by
  refine Met.ofW (cc := cX0_fill) (maxL := 4) (ret := none) (by decide) rfl ?_
  intro p e s m args below meth c s₁ B hml hv
  obtain ⟨rfl, hsz, hP, hK, hD0⟩ := hv
  have hx := B.exec
  have hb := B.bytes
  have hr := B.returns
  have hts := atoms_spec (ws := wsX0_fill) B.pre
  have hown : s.vm.findClass RX0 = some m.cls := findClass_of_methodNamed B.named
  have hlocks := B.notSynchronized
  subst hsz
  have hD := hD0.self (sz := s.heap.size)
  generalize hAe : va_A [(h0, .inr (0, [.ref a1, .ref a2, .int (nI w), .int (nI h), .int (nI kw), .int (nI kh)])), (a1, .inl (cA, 4096, .inl f)), (a2, .inl (cB, 4096, .inl g))] s.heap.size = A at hD ⊢
  have hA : ∀ q : Nat, s.heap.size ≤ q → A q := fun q h => by rw [← hAe]; exact Or.inr h
  have hS : va_S A s.heap s.heap [] := va_S.rf
  have hP : va_P (dC, dI) vwCm [(h0, .inr (0, [.ref a1, .ref a2, .int (nI w), .int (nI h), .int (nI kw), .int (nI kh)])), (a1, .inl (cA, 4096, .inl f)), (a2, .inl (cB, 4096, .inl g))] s.heap := hP
  have hl := lv_entry ([.ref h0, .int seed]) (n := 4) (Nat.le_of_ble_eq_true rfl)
  rw [lg_entry_eq]
  generalize (lg_sl ([.ref h0, .int seed]) ++ List.replicate (4 - (lg_sl ([.ref h0, .int seed])).length) Slot.unset).toArray = ls at hl ⊢
  have hl : lv_has ls 4 [(0, .ref h0), (1, .int seed)] := hl
  refine lv_iconst (v := nI 0) hx hb dX0_fill_0 (by decide +kernel) ?_
  refine lv_istore_n (lv' := [(2, .int (nI 0)), (0, .ref h0), (1, .int seed)]) hx hb dX0_fill_1 rfl hl (by decide) rfl (fun ls hl => ?_)
  have lp2 : ∀ (n2 : Nat) (y0 : Nat) (fc : Nat → Int32), y0 ≤ h → h < y0 + n2 → cf_dn w y0 0 0 fc (cf_V (cf_fil seed)) → ∀ (H : Heap) (locs : List Loc), va_P (dC, dI) vwCm [(h0, .inr (0, [.ref a1, .ref a2, .int (nI w), .int (nI h), .int (nI kw), .int (nI kh)])), (a1, .inl (cA, 4096, .inl fc)), (a2, .inl (cB, 4096, .inl g))] H → va_D A [(h0, .inr (0, [.ref a1, .ref a2, .int (nI w), .int (nI h), .int (nI kw), .int (nI kh)])), (a1, .inl (cA, 4096, .inl fc)), (a2, .inl (cB, 4096, .inl g))] → va_S A s.heap H locs → ∀ (ls : Array Slot), lv_has ls 4 [(0, .ref h0), (1, .int seed), (2, .int (nI y0))] → W p l e (headSpec wsX0_fill ({ frames := 1, cells := 0, slots := 0, locals := 24 })).room s m ([.ref h0, .int seed] : List Value).toArray below meth c H locs 0 0 (MQ below (va_Qv (fun u : Nat → Int32 => cf_Ag w h (cf_V u) (cf_V (cf_fil seed))) (fun (u : Nat → Int32) (t : State) => va_P (dC, dI) vwCm [(h0, .inr (0, [.ref a1, .ref a2, .int (nI w), .int (nI h), .int (nI kw), .int (nI kh)])), (a1, .inl (cA, 4096, .inl u)), (a2, .inl (cB, 4096, .inl g))] t.heap ∧ va_K (dC, dI) vwCm [(cA, .int), (cB, .int)] t ∧ va_D A [(h0, .inr (0, [.ref a1, .ref a2, .int (nI w), .int (nI h), .int (nI kw), .int (nI kh)])), (a1, .inl (cA, 4096, .inl u)), (a2, .inl (cB, 4096, .inl g))]) A) ([.ref h0, .int seed] : List Value).toArray s 0 0 A) (F0 m 2 ls []) := by
    intro n2
    induction n2 with
    | zero => intro y0 fc h1 h2; exact absurd h2 (by omega)
    | succ n2 ih2 =>
      intro y0 fc hk2 hn2 hI H locs hP hD hS ls hl
      refine lv_iload_n hx hb dX0_fill_2 rfl (lv_at hl 2 rfl) ?_
      refine lv_aload_n hx hb dX0_fill_3 rfl (lv_at hl 0 rfl) ?_
      refine va_get (D := (dC, dI)) (ci := 0) (v := .int (nI h)) (C := RX0) (T := TX0) (N := 6) hx hb hts (by decide +kernel) hown hK hP 0 rfl rfl 3 (by decide) (hts (.fieldLink RX0 17 "CoefTurns" "height" "I") (by decide +kernel)) (fun _ h9 => h9) rfl dX0_fill_4 ?_
      refine lv_icmp_ge (tgt := 42) hx hb dX0_fill_7 (by decide) (fun c7 => ?_) (fun c7 => ?_)
      · skip
        have c7 := (nI_leI (a := h) (b := y0) (by omega) (by omega)).mp c7
        have hP9 := hP.sub (ws' := [(h0, .inr (0, [.ref a1, .ref a2, .int (nI w), .int (nI h), .int (nI kw), .int (nI kh)])), (a1, .inl (cA, 4096, .inl fc)), (a2, .inl (cB, 4096, .inl g))]) [0, 1, 2] rfl
        have hD9 := hD.sub (ws' := [(h0, .inr (0, [.ref a1, .ref a2, .int (nI w), .int (nI h), .int (nI kw), .int (nI kh)])), (a1, .inl (cA, 4096, .inl fc)), (a2, .inl (cB, 4096, .inl g))]) [0, 1, 2] (by decide) rfl
        exact W.vret hx hb hr (fun t ht hW => ⟨⟨fc, rfl, (by have e : y0 = h := (by omega); rw [e] at hI; exact cf_dn_e hI), by rw [ht]; exact hP9, va_K.moved hW.alike hK, hD9⟩, hS.F ht⟩) hS.2.2 dX0_fill_42
      · skip
        have c7 := mt (nI_leI (a := h) (b := y0) (by omega) (by omega)).mpr c7
        refine lv_iconst (v := nI 0) hx hb dX0_fill_10 (by decide +kernel) ?_
        refine lv_istore_n (lv' := [(3, .int (nI 0)), (0, .ref h0), (1, .int seed), (2, .int (nI y0))]) hx hb dX0_fill_11 rfl hl (by decide) rfl (fun ls hl => ?_)
        have lp12 : ∀ (n12 : Nat) (x0 : Nat) (fd : Nat → Int32), x0 ≤ w → w < x0 + n12 → cf_dn w y0 x0 0 fd (cf_V (cf_fil seed)) → ∀ (H : Heap) (locs : List Loc), va_P (dC, dI) vwCm [(h0, .inr (0, [.ref a1, .ref a2, .int (nI w), .int (nI h), .int (nI kw), .int (nI kh)])), (a1, .inl (cA, 4096, .inl fd)), (a2, .inl (cB, 4096, .inl g))] H → va_D A [(h0, .inr (0, [.ref a1, .ref a2, .int (nI w), .int (nI h), .int (nI kw), .int (nI kh)])), (a1, .inl (cA, 4096, .inl fd)), (a2, .inl (cB, 4096, .inl g))] → va_S A s.heap H locs → ∀ (ls : Array Slot), lv_has ls 4 [(0, .ref h0), (1, .int seed), (2, .int (nI y0)), (3, .int (nI x0))] → W p l e (headSpec wsX0_fill ({ frames := 1, cells := 0, slots := 0, locals := 24 })).room s m ([.ref h0, .int seed] : List Value).toArray below meth c H locs 0 0 (MQ below (va_Qv (fun u : Nat → Int32 => cf_Ag w h (cf_V u) (cf_V (cf_fil seed))) (fun (u : Nat → Int32) (t : State) => va_P (dC, dI) vwCm [(h0, .inr (0, [.ref a1, .ref a2, .int (nI w), .int (nI h), .int (nI kw), .int (nI kh)])), (a1, .inl (cA, 4096, .inl u)), (a2, .inl (cB, 4096, .inl g))] t.heap ∧ va_K (dC, dI) vwCm [(cA, .int), (cB, .int)] t ∧ va_D A [(h0, .inr (0, [.ref a1, .ref a2, .int (nI w), .int (nI h), .int (nI kw), .int (nI kh)])), (a1, .inl (cA, 4096, .inl u)), (a2, .inl (cB, 4096, .inl g))]) A) ([.ref h0, .int seed] : List Value).toArray s 0 0 A) (F0 m 12 ls []) := by
          intro n12
          induction n12 with
          | zero => intro x0 fd h1 h2; exact absurd h2 (by omega)
          | succ n12 ih12 =>
            intro x0 fd hk12 hn12 hI1 H locs hP hD hS ls hl
            refine lv_iload_n hx hb dX0_fill_12 rfl (lv_at hl 3 rfl) ?_
            refine lv_aload_n hx hb dX0_fill_13 rfl (lv_at hl 0 rfl) ?_
            refine va_get (D := (dC, dI)) (ci := 0) (v := .int (nI w)) (C := RX0) (T := TX0) (N := 6) hx hb hts (by decide +kernel) hown hK hP 0 rfl rfl 2 (by decide) (hts (.fieldLink RX0 13 "CoefTurns" "width" "I") (by decide +kernel)) (fun _ h9 => h9) rfl dX0_fill_14 ?_
            refine lv_icmp_ge (tgt := 36) hx hb dX0_fill_17 (by decide) (fun c17 => ?_) (fun c17 => ?_)
            · skip
              have c17 := (nI_leI (a := w) (b := x0) (by omega) (by omega)).mp c17
              refine lv_iinc (v := nI (y0 + 1)) (lv' := [(2, .int (nI (y0 + 1))), (0, .ref h0), (1, .int seed), (3, .int (nI x0))]) hx hb dX0_fill_36 hl (k := 2) rfl (by rw [← nI_add]; rfl) (by decide) rfl (fun ls hl => ?_)
              refine lv_goto (tgt := 2) hx hb dX0_fill_39 (by decide) ?_
              exact ih2 (y0 + 1) fd (by omega) (by omega) (cf_dn_r hI1 (by omega)) H locs hP hD hS ls (lv_sub hl [1, 2, 0] rfl)
            · skip
              have c17 := mt (nI_leI (a := w) (b := x0) (by omega) (by omega)).mpr c17
              refine lv_aload_n hx hb dX0_fill_20 rfl (lv_at hl 0 rfl) ?_
              refine lv_iload_n hx hb dX0_fill_21 rfl (lv_at hl 3 rfl) ?_
              refine lv_iload_n hx hb dX0_fill_22 rfl (lv_at hl 2 rfl) ?_
              refine vp_callSi (W.runS (As := [.int (nI x0), .int (nI y0)]) (rest := [.ref h0]) ⟨hx, hb, hml, hown, hts⟩ (kX0_blockStart l x0 y0) (va_cwS 2 hts gX0_fill_X0_blockStart rfl rfl rfl (by decide +kernel) ⟨Nat.le_of_ble_eq_true rfl, Nat.le_of_ble_eq_true rfl⟩) ⟨fun a U g mk q => q, fun U hU hW => ⟨rfl, trivial⟩⟩ rfl rfl hl.1 rfl (lv_room (Nat.le_of_ble_eq_true rfl)) dX0_fill_23 ⟨Nat.le_of_ble_eq_true rfl, Nat.le_of_ble_eq_true rfl⟩) (fun r23 w23 => ?_)
              subst w23
              refine lv_iload_n hx hb dX0_fill_26 rfl (lv_at hl 1 rfl) ?_
              have hPc := hP.sub (ws' := [(h0, .inr (0, [.ref a1, .ref a2, .int (nI w), .int (nI h), .int (nI kw), .int (nI kh)])), (a1, .inl (cA, 4096, .inl fd)), (a2, .inl (cB, 4096, .inl g))]) [0, 1, 2] rfl
              have hKc := hK.sub (tys' := [(cA, .int), (cB, .int)]) [0, 1] rfl
              have hDc := hD.sub (ws' := [(h0, .inr (0, [.ref a1, .ref a2, .int (nI w), .int (nI h), .int (nI kw), .int (nI kh)])), (a1, .inl (cA, 4096, .inl fd)), (a2, .inl (cB, 4096, .inl g))]) [0, 1, 2] (by decide) rfl
              have hFc := va_free (wc := [(h0, .inr (0, [.ref a1, .ref a2, .int (nI w), .int (nI h), .int (nI kw), .int (nI kh)])), (a1, .inl (cA, 4096, .inl fd)), (a2, .inl (cB, 4096, .inl g))]) hD hS hA [0, 1, 2] rfl
              refine va_callv (va_runV (As := [.int (nI (64 * (8 * y0 + x0))), .int seed]) (rest := []) ⟨hx, hb, hml, hown, hts⟩ (kX0_fillBlock l dC dI H.size h0 a1 a2 cA cB fd g w h kw kh (8 * y0 + x0) seed (by omega)) (cwV 2 hts gX0_fill_X0_fillBlock rfl rfl rfl (by decide +kernel) ⟨Nat.le_of_ble_eq_true rfl, Nat.le_of_ble_eq_true rfl⟩) ⟨fun a U g mk q => by obtain ⟨q0, q1, qP, qK, qD⟩ := q; exact ⟨q0, q1, qP, va_K.moved (u := U) (U := U.calling g mk a) (Vm.Alike.refl U.vm) qK, qD⟩, va_recv hKc hPc (ci := 0) (q0 := 0) rfl rfl, fun U hU hW => ⟨rfl, by rw [hU], by rw [hU]; exact hPc, va_K.moved hW.alike hKc, hDc.weaken (fun _ _ _ _ => trivial)⟩⟩ rfl rfl hl.1 rfl (lv_room (Nat.le_of_ble_eq_true rfl)) dX0_fill_27 ⟨Nat.le_of_ble_eq_true rfl, Nat.le_of_ble_eq_true rfl⟩) hS (fun q _ h => hFc q h) hFc (fun u27 t H1 locs ht hvm w27 hB hz1 hk1 hS => ?_)
              obtain ⟨hP1, -, hD1⟩ := hB
              rw [ht] at hP1
              try dsimp only at w27
              obtain ⟨hP, hD⟩ := va_join (wr := []) (w1 := [(h0, .inr (0, [.ref a1, .ref a2, .int (nI w), .int (nI h), .int (nI kw), .int (nI kh)])), (a1, .inl (cA, 4096, .inl u27)), (a2, .inl (cB, 4096, .inl g))]) hP hD [0, 1, 2] [] rfl rfl (by decide) (by decide) hk1 hFc hP1 hD1
              generalize H1 = H at hP hS ⊢
              have hP : va_P (dC, dI) vwCm [(h0, .inr (0, [.ref a1, .ref a2, .int (nI w), .int (nI h), .int (nI kw), .int (nI kh)])), (a1, .inl (cA, 4096, .inl u27)), (a2, .inl (cB, 4096, .inl g))] H := hP
              have hD : va_D A [(h0, .inr (0, [.ref a1, .ref a2, .int (nI w), .int (nI h), .int (nI kw), .int (nI kh)])), (a1, .inl (cA, 4096, .inl u27)), (a2, .inl (cB, 4096, .inl g))] := hD
              refine lv_iinc (v := nI (x0 + 1)) (lv' := [(3, .int (nI (x0 + 1))), (0, .ref h0), (1, .int seed), (2, .int (nI y0))]) hx hb dX0_fill_30 hl (k := 3) rfl (by rw [← nI_add]; rfl) (by decide) rfl (fun ls hl => ?_)
              refine lv_goto (tgt := 12) hx hb dX0_fill_33 (by decide) ?_
              exact ih12 (x0 + 1) u27 (by omega) (by omega) (cf_fb_dn hI1 hw (by omega) w27) H locs hP hD hS ls (lv_sub hl [1, 2, 3, 0] rfl)
        exact lp12 (w + 1) 0 fc (by omega) (by omega) hI H locs hP hD hS ls (lv_sub hl [1, 2, 3, 0] rfl)
  exact lp2 (h + 1) 0 f (by omega) (by omega) cf_dn_0 s.heap [] hP hD hS ls (lv_sub hl [1, 2, 0] rfl)
set_option maxHeartbeats 4000000 in
set_option maxRecDepth 100000 in
/-- X0_transpose -/
theorem kX0_transpose (l : Launch) (dC : Nat → ClassId) (dI : Nat → Nat → Nat) (sz : Nat) (h0 a1 a2 : Nat) (cA cB : ClassId) (f g : Nat → Int32) (w h kw kh : Nat) (hw : w ≤ 8) (hh : h ≤ 8) (hw1 : 1 ≤ w) (hh1 : 1 ≤ h) : Met l yX0_transpose wsX0_transpose ({ frames := 3, cells := 0, slots := 0, locals := 69 }) (va_Pc [.ref h0] (fun U => U.heap.size = sz ∧ va_P (dC, dI) vwCm [(h0, .inr (0, [.ref a1, .ref a2, .int (nI w), .int (nI h), .int (nI kw), .int (nI kh)])), (a1, .inl (cA, 4096, .inl f)), (a2, .inl (cB, 4096, .inl g))] U.heap ∧ va_K (dC, dI) vwCm [(cA, .int), (cB, .int)] U ∧ va_D (fun _ => True) [(h0, .inr (0, [.ref a1, .ref a2, .int (nI w), .int (nI h), .int (nI kw), .int (nI kh)])), (a1, .inl (cA, 4096, .inl f)), (a2, .inl (cB, 4096, .inl g))])) (va_Qv (fun u : Nat → Int32 => cf_Ag h w (cf_V u) (cf_tr (cf_V f))) (fun (u : Nat → Int32) (t : State) => va_P (dC, dI) vwCm [(h0, .inr (0, [.ref a1, .ref a2, .int (nI h), .int (nI w), .int (nI kw), .int (nI kh)])), (a1, .inl (cA, 4096, .inl u)), (a2, .inl (cB, 4096, .inl g))] t.heap ∧ va_K (dC, dI) vwCm [(cA, .int), (cB, .int)] t ∧ va_D (va_A [(h0, .inr (0, [.ref a1, .ref a2, .int (nI w), .int (nI h), .int (nI kw), .int (nI kh)])), (a1, .inl (cA, 4096, .inl f)), (a2, .inl (cB, 4096, .inl g))] sz) [(h0, .inr (0, [.ref a1, .ref a2, .int (nI h), .int (nI w), .int (nI kw), .int (nI kh)])), (a1, .inl (cA, 4096, .inl u)), (a2, .inl (cB, 4096, .inl g))]) (va_A [(h0, .inr (0, [.ref a1, .ref a2, .int (nI w), .int (nI h), .int (nI kw), .int (nI kh)])), (a1, .inl (cA, 4096, .inl f)), (a2, .inl (cB, 4096, .inl g))] sz)) 0 0 (va_A [(h0, .inr (0, [.ref a1, .ref a2, .int (nI w), .int (nI h), .int (nI kw), .int (nI kh)])), (a1, .inl (cA, 4096, .inl f)), (a2, .inl (cB, 4096, .inl g))] sz) := by
  refine Met.ofW (cc := cX0_transpose) (maxL := 4) (ret := none) (by decide) rfl ?_
  intro p e s m args below meth c s₁ B hml hv
  obtain ⟨rfl, hsz, hP, hK, hD0⟩ := hv
  have hx := B.exec
  have hb := B.bytes
  have hr := B.returns
  have hts := atoms_spec (ws := wsX0_transpose) B.pre
  have hown : s.vm.findClass RX0 = some m.cls := findClass_of_methodNamed B.named
  have hlocks := B.notSynchronized
  subst hsz
  have hD := hD0.self (sz := s.heap.size)
  generalize hAe : va_A [(h0, .inr (0, [.ref a1, .ref a2, .int (nI w), .int (nI h), .int (nI kw), .int (nI kh)])), (a1, .inl (cA, 4096, .inl f)), (a2, .inl (cB, 4096, .inl g))] s.heap.size = A at hD ⊢
  have hA : ∀ q : Nat, s.heap.size ≤ q → A q := fun q h => by rw [← hAe]; exact Or.inr h
  have hS : va_S A s.heap s.heap [] := va_S.rf
  have hP : va_P (dC, dI) vwCm [(h0, .inr (0, [.ref a1, .ref a2, .int (nI w), .int (nI h), .int (nI kw), .int (nI kh)])), (a1, .inl (cA, 4096, .inl f)), (a2, .inl (cB, 4096, .inl g))] s.heap := hP
  have hl := lv_entry ([.ref h0]) (n := 4) (Nat.le_of_ble_eq_true rfl)
  rw [lg_entry_eq]
  generalize (lg_sl ([.ref h0]) ++ List.replicate (4 - (lg_sl ([.ref h0])).length) Slot.unset).toArray = ls at hl ⊢
  have hl : lv_has ls 4 [(0, .ref h0)] := hl
  refine lv_aload_n hx hb dX0_transpose_0 rfl (lv_at hl 0 rfl) ?_
  refine lv_aload_n hx hb dX0_transpose_1 rfl (lv_at hl 0 rfl) ?_
  refine va_get (D := (dC, dI)) (ci := 0) (v := .int (nI w)) (C := RX0) (T := TX0) (N := 6) hx hb hts (by decide +kernel) hown hK hP 0 rfl rfl 2 (by decide) (hts (.fieldLink RX0 13 "CoefTurns" "width" "I") (by decide +kernel)) (fun _ h9 => h9) rfl dX0_transpose_2 ?_
  refine lv_aload_n hx hb dX0_transpose_5 rfl (lv_at hl 0 rfl) ?_
  refine va_get (D := (dC, dI)) (ci := 0) (v := .int (nI h)) (C := RX0) (T := TX0) (N := 6) hx hb hts (by decide +kernel) hown hK hP 0 rfl rfl 3 (by decide) (hts (.fieldLink RX0 17 "CoefTurns" "height" "I") (by decide +kernel)) (fun _ h9 => h9) rfl dX0_transpose_6 ?_
  refine va_mmax hx hb (hml.trans hl.1.symm) hown (hts (.methodLink RX0 61 Lib.Math.max.name) (by decide +kernel)) (hts (.static Lib.Math.max.name) (by decide +kernel)) (hts (.initialized "java/lang/Math") (by decide +kernel)) (hts (.code Lib.Math.max.name Lib.Math.max.code 2 (some .int)) (by first | exact List.mem_of_getElem? (i := 6) rfl | decide +kernel)) (Nat.le_of_ble_eq_true rfl) (Nat.le_of_ble_eq_true rfl) (Nat.le_of_ble_eq_true rfl) (Nat.le_of_ble_eq_true rfl) dX0_transpose_9 ?_
  obtain ⟨N, eN, hN1, hN2, hN3⟩ := cf_maxN hw hh
  refine cf_top eN ?_
  have hPc := hP.sub (ws' := [(h0, .inr (0, [.ref a1, .ref a2, .int (nI w), .int (nI h), .int (nI kw), .int (nI kh)])), (a1, .inl (cA, 4096, .inl f)), (a2, .inl (cB, 4096, .inl g))]) [0, 1, 2] rfl
  have hKc := hK.sub (tys' := [(cA, .int), (cB, .int)]) [0, 1] rfl
  have hDc := hD.sub (ws' := [(h0, .inr (0, [.ref a1, .ref a2, .int (nI w), .int (nI h), .int (nI kw), .int (nI kh)])), (a1, .inl (cA, 4096, .inl f)), (a2, .inl (cB, 4096, .inl g))]) [0, 1, 2] (by decide) rfl
  have hFc := va_free (wc := [(h0, .inr (0, [.ref a1, .ref a2, .int (nI w), .int (nI h), .int (nI kw), .int (nI kh)])), (a1, .inl (cA, 4096, .inl f)), (a2, .inl (cB, 4096, .inl g))]) hD hS hA [0, 1, 2] rfl
  refine va_callv (va_runV (As := [.int (nI N)]) (rest := []) ⟨hx, hb, hml, hown, hts⟩ (kX0_exchangeAcrossDiagonal l dC dI s.heap.size h0 a1 a2 cA cB f g w h kw kh N (by omega) (by omega)) (cwV 1 hts gX0_transpose_X0_exchangeAcrossDiagonal rfl rfl rfl (by decide +kernel) ⟨Nat.le_of_ble_eq_true rfl, Nat.le_of_ble_eq_true rfl⟩) ⟨fun a U g mk q => by obtain ⟨q0, q1, qP, qK, qD⟩ := q; exact ⟨q0, q1, qP, va_K.moved (u := U) (U := U.calling g mk a) (Vm.Alike.refl U.vm) qK, qD⟩, va_recv hKc hPc (ci := 0) (q0 := 0) rfl rfl, fun U hU hW => ⟨rfl, by rw [hU], by rw [hU]; exact hPc, va_K.moved hW.alike hKc, hDc.weaken (fun _ _ _ _ => trivial)⟩⟩ rfl rfl hl.1 rfl (lv_room (Nat.le_of_ble_eq_true rfl)) dX0_transpose_12 ⟨Nat.le_of_ble_eq_true rfl, Nat.le_of_ble_eq_true rfl⟩) hS (fun q _ h => hFc q h) hFc (fun u12 t H1 locs ht hvm w12 hB hz1 hk1 hS => ?_)
  obtain ⟨hP1, -, hD1⟩ := hB
  rw [ht] at hP1
  try dsimp only at w12
  obtain ⟨hP, hD⟩ := va_join (wr := []) (w1 := [(h0, .inr (0, [.ref a1, .ref a2, .int (nI w), .int (nI h), .int (nI kw), .int (nI kh)])), (a1, .inl (cA, 4096, .inl u12)), (a2, .inl (cB, 4096, .inl g))]) hP hD [0, 1, 2] [] rfl rfl (by decide) (by decide) hk1 hFc hP1 hD1
  generalize H1 = H at hP hS ⊢
  have hP : va_P (dC, dI) vwCm [(h0, .inr (0, [.ref a1, .ref a2, .int (nI w), .int (nI h), .int (nI kw), .int (nI kh)])), (a1, .inl (cA, 4096, .inl u12)), (a2, .inl (cB, 4096, .inl g))] H := hP
  have hD : va_D A [(h0, .inr (0, [.ref a1, .ref a2, .int (nI w), .int (nI h), .int (nI kw), .int (nI kh)])), (a1, .inl (cA, 4096, .inl u12)), (a2, .inl (cB, 4096, .inl g))] := hD
  refine lv_aload_n hx hb dX0_transpose_15 rfl (lv_at hl 0 rfl) ?_
  refine va_get (D := (dC, dI)) (ci := 0) (v := .int (nI w)) (C := RX0) (T := TX0) (N := 6) hx hb hts (by decide +kernel) hown hK hP 0 rfl rfl 2 (by decide) (hts (.fieldLink RX0 13 "CoefTurns" "width" "I") (by decide +kernel)) (fun _ h9 => h9) rfl dX0_transpose_16 ?_
  refine lv_istore_n (lv' := [(1, .int (nI w)), (0, .ref h0)]) hx hb dX0_transpose_19 rfl hl (by decide) rfl (fun ls hl => ?_)
  refine lv_aload_n hx hb dX0_transpose_20 rfl (lv_at hl 1 rfl) ?_
  refine lv_aload_n hx hb dX0_transpose_21 rfl (lv_at hl 1 rfl) ?_
  refine va_get (D := (dC, dI)) (ci := 0) (v := .int (nI h)) (C := RX0) (T := TX0) (N := 6) hx hb hts (by decide +kernel) hown hK hP 0 rfl rfl 3 (by decide) (hts (.fieldLink RX0 17 "CoefTurns" "height" "I") (by decide +kernel)) (fun _ h9 => h9) rfl dX0_transpose_22 ?_
  refine va_put (D := (dC, dI)) (ci := 0) (v := .int (nI h)) (ty := .int) (C := RX0) (T := TX0) (N := 6) hx hb hts (by decide +kernel) tyX0 tyX0_ok nmX0 hown hK hP hD hS 0 rfl rfl 2 (by decide) (hts (.fieldLink RX0 13 "CoefTurns" "width" "I") (by decide +kernel)) (fun _ h9 => h9) rfl (by decide +kernel) rfl rfl (Nat.le_of_ble_eq_true rfl) dX0_transpose_25 (fun H locs hP hD hS => ?_)
  have hP : va_P (dC, dI) vwCm [(h0, .inr (0, [.ref a1, .ref a2, .int (nI h), .int (nI h), .int (nI kw), .int (nI kh)])), (a1, .inl (cA, 4096, .inl u12)), (a2, .inl (cB, 4096, .inl g))] H := hP
  have hD : va_D A [(h0, .inr (0, [.ref a1, .ref a2, .int (nI h), .int (nI h), .int (nI kw), .int (nI kh)])), (a1, .inl (cA, 4096, .inl u12)), (a2, .inl (cB, 4096, .inl g))] := hD
  refine lv_aload_n hx hb dX0_transpose_28 rfl (lv_at hl 1 rfl) ?_
  refine lv_iload_n hx hb dX0_transpose_29 rfl (lv_at hl 0 rfl) ?_
  refine va_put (D := (dC, dI)) (ci := 0) (v := .int (nI w)) (ty := .int) (C := RX0) (T := TX0) (N := 6) hx hb hts (by decide +kernel) tyX0 tyX0_ok nmX0 hown hK hP hD hS 0 rfl rfl 3 (by decide) (hts (.fieldLink RX0 17 "CoefTurns" "height" "I") (by decide +kernel)) (fun _ h9 => h9) rfl (by decide +kernel) rfl rfl (Nat.le_of_ble_eq_true rfl) dX0_transpose_30 (fun H locs hP hD hS => ?_)
  have hP : va_P (dC, dI) vwCm [(h0, .inr (0, [.ref a1, .ref a2, .int (nI h), .int (nI w), .int (nI kw), .int (nI kh)])), (a1, .inl (cA, 4096, .inl u12)), (a2, .inl (cB, 4096, .inl g))] H := hP
  have hD : va_D A [(h0, .inr (0, [.ref a1, .ref a2, .int (nI h), .int (nI w), .int (nI kw), .int (nI kh)])), (a1, .inl (cA, 4096, .inl u12)), (a2, .inl (cB, 4096, .inl g))] := hD
  refine lv_iconst (v := nI 0) hx hb dX0_transpose_33 (by decide +kernel) ?_
  refine lv_istore_n (lv' := [(2, .int (nI 0)), (1, .int (nI w)), (0, .ref h0)]) hx hb dX0_transpose_34 rfl hl (by decide) rfl (fun ls hl => ?_)
  have lp35 : ∀ (n35 : Nat) (y0 : Nat) (fc : Nat → Int32), y0 ≤ w → w < y0 + n35 → cf_ti h y0 0 u12 fc → ∀ (H : Heap) (locs : List Loc), va_P (dC, dI) vwCm [(h0, .inr (0, [.ref a1, .ref a2, .int (nI h), .int (nI w), .int (nI kw), .int (nI kh)])), (a1, .inl (cA, 4096, .inl fc)), (a2, .inl (cB, 4096, .inl g))] H → va_D A [(h0, .inr (0, [.ref a1, .ref a2, .int (nI h), .int (nI w), .int (nI kw), .int (nI kh)])), (a1, .inl (cA, 4096, .inl fc)), (a2, .inl (cB, 4096, .inl g))] → va_S A s.heap H locs → ∀ (ls : Array Slot), lv_has ls 4 [(0, .ref h0), (1, .int (nI w)), (2, .int (nI y0))] → W p l e (headSpec wsX0_transpose ({ frames := 3, cells := 0, slots := 0, locals := 69 })).room s m ([.ref h0] : List Value).toArray below meth c H locs 0 0 (MQ below (va_Qv (fun u : Nat → Int32 => cf_Ag h w (cf_V u) (cf_tr (cf_V f))) (fun (u : Nat → Int32) (t : State) => va_P (dC, dI) vwCm [(h0, .inr (0, [.ref a1, .ref a2, .int (nI h), .int (nI w), .int (nI kw), .int (nI kh)])), (a1, .inl (cA, 4096, .inl u)), (a2, .inl (cB, 4096, .inl g))] t.heap ∧ va_K (dC, dI) vwCm [(cA, .int), (cB, .int)] t ∧ va_D A [(h0, .inr (0, [.ref a1, .ref a2, .int (nI h), .int (nI w), .int (nI kw), .int (nI kh)])), (a1, .inl (cA, 4096, .inl u)), (a2, .inl (cB, 4096, .inl g))]) A) ([.ref h0] : List Value).toArray s 0 0 A) (F0 m 35 ls []) := by
    intro n35
    induction n35 with
    | zero => intro y0 fc h1 h2; exact absurd h2 (by omega)
    | succ n35 ih35 =>
      intro y0 fc hk35 hn35 hI H locs hP hD hS ls hl
      refine lv_iload_n hx hb dX0_transpose_35 rfl (lv_at hl 2 rfl) ?_
      refine lv_aload_n hx hb dX0_transpose_36 rfl (lv_at hl 0 rfl) ?_
      refine va_get (D := (dC, dI)) (ci := 0) (v := .int (nI w)) (C := RX0) (T := TX0) (N := 6) hx hb hts (by decide +kernel) hown hK hP 0 rfl rfl 3 (by decide) (hts (.fieldLink RX0 17 "CoefTurns" "height" "I") (by decide +kernel)) (fun _ h9 => h9) rfl dX0_transpose_37 ?_
      refine lv_icmp_ge (tgt := 74) hx hb dX0_transpose_40 (by decide) (fun c40 => ?_) (fun c40 => ?_)
      · skip
        have c40 := (nI_leI (a := w) (b := y0) (by omega) (by omega)).mp c40
        have hP9 := hP.sub (ws' := [(h0, .inr (0, [.ref a1, .ref a2, .int (nI h), .int (nI w), .int (nI kw), .int (nI kh)])), (a1, .inl (cA, 4096, .inl fc)), (a2, .inl (cB, 4096, .inl g))]) [0, 1, 2] rfl
        have hD9 := hD.sub (ws' := [(h0, .inr (0, [.ref a1, .ref a2, .int (nI h), .int (nI w), .int (nI kw), .int (nI kh)])), (a1, .inl (cA, 4096, .inl fc)), (a2, .inl (cB, 4096, .inl g))]) [0, 1, 2] (by decide) rfl
        exact W.vret hx hb hr (fun t ht hW => ⟨⟨fc, rfl, (by have e : y0 = w := (by omega); rw [e] at hI; exact cf_ti_e w12 hI (by omega) (by omega)), by rw [ht]; exact hP9, va_K.moved hW.alike hK, hD9⟩, hS.F ht⟩) hS.2.2 dX0_transpose_74
      · skip
        have c40 := mt (nI_leI (a := w) (b := y0) (by omega) (by omega)).mpr c40
        refine lv_iconst (v := nI 0) hx hb dX0_transpose_43 (by decide +kernel) ?_
        refine lv_istore_n (lv' := [(3, .int (nI 0)), (0, .ref h0), (1, .int (nI w)), (2, .int (nI y0))]) hx hb dX0_transpose_44 rfl hl (by decide) rfl (fun ls hl => ?_)
        have lp45 : ∀ (n45 : Nat) (x0 : Nat) (fd : Nat → Int32), x0 ≤ h → h < x0 + n45 → cf_ti h y0 x0 u12 fd → ∀ (H : Heap) (locs : List Loc), va_P (dC, dI) vwCm [(h0, .inr (0, [.ref a1, .ref a2, .int (nI h), .int (nI w), .int (nI kw), .int (nI kh)])), (a1, .inl (cA, 4096, .inl fd)), (a2, .inl (cB, 4096, .inl g))] H → va_D A [(h0, .inr (0, [.ref a1, .ref a2, .int (nI h), .int (nI w), .int (nI kw), .int (nI kh)])), (a1, .inl (cA, 4096, .inl fd)), (a2, .inl (cB, 4096, .inl g))] → va_S A s.heap H locs → ∀ (ls : Array Slot), lv_has ls 4 [(0, .ref h0), (1, .int (nI w)), (2, .int (nI y0)), (3, .int (nI x0))] → W p l e (headSpec wsX0_transpose ({ frames := 3, cells := 0, slots := 0, locals := 69 })).room s m ([.ref h0] : List Value).toArray below meth c H locs 0 0 (MQ below (va_Qv (fun u : Nat → Int32 => cf_Ag h w (cf_V u) (cf_tr (cf_V f))) (fun (u : Nat → Int32) (t : State) => va_P (dC, dI) vwCm [(h0, .inr (0, [.ref a1, .ref a2, .int (nI h), .int (nI w), .int (nI kw), .int (nI kh)])), (a1, .inl (cA, 4096, .inl u)), (a2, .inl (cB, 4096, .inl g))] t.heap ∧ va_K (dC, dI) vwCm [(cA, .int), (cB, .int)] t ∧ va_D A [(h0, .inr (0, [.ref a1, .ref a2, .int (nI h), .int (nI w), .int (nI kw), .int (nI kh)])), (a1, .inl (cA, 4096, .inl u)), (a2, .inl (cB, 4096, .inl g))]) A) ([.ref h0] : List Value).toArray s 0 0 A) (F0 m 45 ls []) := by
          intro n45
          induction n45 with
          | zero => intro x0 fd h1 h2; exact absurd h2 (by omega)
          | succ n45 ih45 =>
            intro x0 fd hk45 hn45 hI1 H locs hP hD hS ls hl
            refine lv_iload_n hx hb dX0_transpose_45 rfl (lv_at hl 3 rfl) ?_
            refine lv_aload_n hx hb dX0_transpose_46 rfl (lv_at hl 0 rfl) ?_
            refine va_get (D := (dC, dI)) (ci := 0) (v := .int (nI h)) (C := RX0) (T := TX0) (N := 6) hx hb hts (by decide +kernel) hown hK hP 0 rfl rfl 2 (by decide) (hts (.fieldLink RX0 13 "CoefTurns" "width" "I") (by decide +kernel)) (fun _ h9 => h9) rfl dX0_transpose_47 ?_
            refine lv_icmp_ge (tgt := 68) hx hb dX0_transpose_50 (by decide) (fun c50 => ?_) (fun c50 => ?_)
            · skip
              have c50 := (nI_leI (a := h) (b := x0) (by omega) (by omega)).mp c50
              refine lv_iinc (v := nI (y0 + 1)) (lv' := [(2, .int (nI (y0 + 1))), (0, .ref h0), (1, .int (nI w)), (3, .int (nI x0))]) hx hb dX0_transpose_68 hl (k := 2) rfl (by rw [← nI_add]; rfl) (by decide) rfl (fun ls hl => ?_)
              refine lv_goto (tgt := 35) hx hb dX0_transpose_71 (by decide) ?_
              exact ih35 (y0 + 1) fd (by omega) (by omega) (cf_ti_r hI1 (by omega)) H locs hP hD hS ls (lv_sub hl [1, 2, 0] rfl)
            · skip
              have c50 := mt (nI_leI (a := h) (b := x0) (by omega) (by omega)).mpr c50
              refine lv_aload_n hx hb dX0_transpose_53 rfl (lv_at hl 0 rfl) ?_
              refine lv_iload_n hx hb dX0_transpose_54 rfl (lv_at hl 3 rfl) ?_
              refine lv_iload_n hx hb dX0_transpose_55 rfl (lv_at hl 2 rfl) ?_
              refine vp_callSi (W.runS (As := [.int (nI x0), .int (nI y0)]) (rest := [.ref h0]) ⟨hx, hb, hml, hown, hts⟩ (kX0_blockStart l x0 y0) (va_cwS 2 hts gX0_transpose_X0_blockStart rfl rfl rfl (by decide +kernel) ⟨Nat.le_of_ble_eq_true rfl, Nat.le_of_ble_eq_true rfl⟩) ⟨fun a U g mk q => q, fun U hU hW => ⟨rfl, trivial⟩⟩ rfl rfl hl.1 rfl (lv_room (Nat.le_of_ble_eq_true rfl)) dX0_transpose_56 ⟨Nat.le_of_ble_eq_true rfl, Nat.le_of_ble_eq_true rfl⟩) (fun r56 w56 => ?_)
              subst w56
              have hPc := hP.sub (ws' := [(h0, .inr (0, [.ref a1, .ref a2, .int (nI h), .int (nI w), .int (nI kw), .int (nI kh)])), (a1, .inl (cA, 4096, .inl fd)), (a2, .inl (cB, 4096, .inl g))]) [0, 1, 2] rfl
              have hKc := hK.sub (tys' := [(cA, .int), (cB, .int)]) [0, 1] rfl
              have hDc := hD.sub (ws' := [(h0, .inr (0, [.ref a1, .ref a2, .int (nI h), .int (nI w), .int (nI kw), .int (nI kh)])), (a1, .inl (cA, 4096, .inl fd)), (a2, .inl (cB, 4096, .inl g))]) [0, 1, 2] (by decide) rfl
              have hFc := va_free (wc := [(h0, .inr (0, [.ref a1, .ref a2, .int (nI h), .int (nI w), .int (nI kw), .int (nI kh)])), (a1, .inl (cA, 4096, .inl fd)), (a2, .inl (cB, 4096, .inl g))]) hD hS hA [0, 1, 2] rfl
              refine va_callv (va_runV (As := [.int (nI (64 * (8 * y0 + x0)))]) (rest := []) ⟨hx, hb, hml, hown, hts⟩ (kX0_transposeBlock l dC dI H.size h0 a1 a2 cA cB fd g h w kw kh (8 * y0 + x0) (by omega)) (cwV 1 hts gX0_transpose_X0_transposeBlock rfl rfl rfl (by decide +kernel) ⟨Nat.le_of_ble_eq_true rfl, Nat.le_of_ble_eq_true rfl⟩) ⟨fun a U g mk q => by obtain ⟨q0, q1, qP, qK, qD⟩ := q; exact ⟨q0, q1, qP, va_K.moved (u := U) (U := U.calling g mk a) (Vm.Alike.refl U.vm) qK, qD⟩, va_recv hKc hPc (ci := 0) (q0 := 0) rfl rfl, fun U hU hW => ⟨rfl, by rw [hU], by rw [hU]; exact hPc, va_K.moved hW.alike hKc, hDc.weaken (fun _ _ _ _ => trivial)⟩⟩ rfl rfl hl.1 rfl (lv_room (Nat.le_of_ble_eq_true rfl)) dX0_transpose_59 ⟨Nat.le_of_ble_eq_true rfl, Nat.le_of_ble_eq_true rfl⟩) hS (fun q _ h => hFc q h) hFc (fun u59 t H1 locs ht hvm w59 hB hz1 hk1 hS => ?_)
              obtain ⟨hP1, -, hD1⟩ := hB
              rw [ht] at hP1
              try dsimp only at w59
              obtain ⟨hP, hD⟩ := va_join (wr := []) (w1 := [(h0, .inr (0, [.ref a1, .ref a2, .int (nI h), .int (nI w), .int (nI kw), .int (nI kh)])), (a1, .inl (cA, 4096, .inl u59)), (a2, .inl (cB, 4096, .inl g))]) hP hD [0, 1, 2] [] rfl rfl (by decide) (by decide) hk1 hFc hP1 hD1
              generalize H1 = H at hP hS ⊢
              have hP : va_P (dC, dI) vwCm [(h0, .inr (0, [.ref a1, .ref a2, .int (nI h), .int (nI w), .int (nI kw), .int (nI kh)])), (a1, .inl (cA, 4096, .inl u59)), (a2, .inl (cB, 4096, .inl g))] H := hP
              have hD : va_D A [(h0, .inr (0, [.ref a1, .ref a2, .int (nI h), .int (nI w), .int (nI kw), .int (nI kh)])), (a1, .inl (cA, 4096, .inl u59)), (a2, .inl (cB, 4096, .inl g))] := hD
              refine lv_iinc (v := nI (x0 + 1)) (lv' := [(3, .int (nI (x0 + 1))), (0, .ref h0), (1, .int (nI w)), (2, .int (nI y0))]) hx hb dX0_transpose_62 hl (k := 3) rfl (by rw [← nI_add]; rfl) (by decide) rfl (fun ls hl => ?_)
              refine lv_goto (tgt := 45) hx hb dX0_transpose_65 (by decide) ?_
              exact ih45 (x0 + 1) u59 (by omega) (by omega) (cf_ti_s hI1 hh (by omega) w59) H locs hP hD hS ls (lv_sub hl [1, 2, 3, 0] rfl)
        exact lp45 (h + 1) 0 fc (by omega) (by omega) hI H locs hP hD hS ls (lv_sub hl [1, 2, 3, 0] rfl)
  exact lp35 (w + 1) 0 u12 (by omega) (by omega) cf_ti_0 H locs hP hD hS ls (lv_sub hl [2, 1, 0] rfl)
set_option maxHeartbeats 4000000 in
set_option maxRecDepth 100000 in
/-- X0_mirror -/
theorem kX0_mirror (l : Launch) (dC : Nat → ClassId) (dI : Nat → Nat → Nat) (sz : Nat) (h0 a1 a2 : Nat) (cA cB : ClassId) (f g : Nat → Int32) (w h kw kh : Nat) (hw : w ≤ 8) (hh : h ≤ 8) (hw1 : 1 ≤ w) (hh1 : 1 ≤ h) : Met l yX0_mirror wsX0_mirror ({ frames := 2, cells := 0, slots := 0, locals := 46 }) (va_Pc [.ref h0] (fun U => U.heap.size = sz ∧ va_P (dC, dI) vwCm [(h0, .inr (0, [.ref a1, .ref a2, .int (nI w), .int (nI h), .int (nI kw), .int (nI kh)])), (a1, .inl (cA, 4096, .inl f)), (a2, .inl (cB, 4096, .inl g))] U.heap ∧ va_K (dC, dI) vwCm [(cA, .int), (cB, .int)] U ∧ va_D (fun _ => True) [(h0, .inr (0, [.ref a1, .ref a2, .int (nI w), .int (nI h), .int (nI kw), .int (nI kh)])), (a1, .inl (cA, 4096, .inl f)), (a2, .inl (cB, 4096, .inl g))])) (va_Qv (fun u : Nat → Int32 => cf_Ag w h (cf_V u) (cf_mi w (cf_V f))) (fun (u : Nat → Int32) (t : State) => va_P (dC, dI) vwCm [(h0, .inr (0, [.ref a1, .ref a2, .int (nI w), .int (nI h), .int (nI kw), .int (nI kh)])), (a1, .inl (cA, 4096, .inl u)), (a2, .inl (cB, 4096, .inl g))] t.heap ∧ va_K (dC, dI) vwCm [(cA, .int), (cB, .int)] t ∧ va_D (va_A [(h0, .inr (0, [.ref a1, .ref a2, .int (nI w), .int (nI h), .int (nI kw), .int (nI kh)])), (a1, .inl (cA, 4096, .inl f)), (a2, .inl (cB, 4096, .inl g))] sz) [(h0, .inr (0, [.ref a1, .ref a2, .int (nI w), .int (nI h), .int (nI kw), .int (nI kh)])), (a1, .inl (cA, 4096, .inl u)), (a2, .inl (cB, 4096, .inl g))]) (va_A [(h0, .inr (0, [.ref a1, .ref a2, .int (nI w), .int (nI h), .int (nI kw), .int (nI kh)])), (a1, .inl (cA, 4096, .inl f)), (a2, .inl (cB, 4096, .inl g))] sz)) 0 0 (va_A [(h0, .inr (0, [.ref a1, .ref a2, .int (nI w), .int (nI h), .int (nI kw), .int (nI kh)])), (a1, .inl (cA, 4096, .inl f)), (a2, .inl (cB, 4096, .inl g))] sz) := by
  refine Met.ofW (cc := cX0_mirror) (maxL := 3) (ret := none) (by decide) rfl ?_
  intro p e s m args below meth c s₁ B hml hv
  obtain ⟨rfl, hsz, hP, hK, hD0⟩ := hv
  have hx := B.exec
  have hb := B.bytes
  have hr := B.returns
  have hts := atoms_spec (ws := wsX0_mirror) B.pre
  have hown : s.vm.findClass RX0 = some m.cls := findClass_of_methodNamed B.named
  have hlocks := B.notSynchronized
  subst hsz
  have hD := hD0.self (sz := s.heap.size)
  generalize hAe : va_A [(h0, .inr (0, [.ref a1, .ref a2, .int (nI w), .int (nI h), .int (nI kw), .int (nI kh)])), (a1, .inl (cA, 4096, .inl f)), (a2, .inl (cB, 4096, .inl g))] s.heap.size = A at hD ⊢
  have hA : ∀ q : Nat, s.heap.size ≤ q → A q := fun q h => by rw [← hAe]; exact Or.inr h
  have hS : va_S A s.heap s.heap [] := va_S.rf
  have hP : va_P (dC, dI) vwCm [(h0, .inr (0, [.ref a1, .ref a2, .int (nI w), .int (nI h), .int (nI kw), .int (nI kh)])), (a1, .inl (cA, 4096, .inl f)), (a2, .inl (cB, 4096, .inl g))] s.heap := hP
  have hl := lv_entry ([.ref h0]) (n := 3) (Nat.le_of_ble_eq_true rfl)
  rw [lg_entry_eq]
  generalize (lg_sl ([.ref h0]) ++ List.replicate (3 - (lg_sl ([.ref h0])).length) Slot.unset).toArray = ls at hl ⊢
  have hl : lv_has ls 3 [(0, .ref h0)] := hl
  refine lv_iconst (v := nI 0) hx hb dX0_mirror_0 (by decide +kernel) ?_
  refine lv_istore_n (lv' := [(1, .int (nI 0)), (0, .ref h0)]) hx hb dX0_mirror_1 rfl hl (by decide) rfl (fun ls hl => ?_)
  have lp2 : ∀ (n2 : Nat) (y0 : Nat) (fc : Nat → Int32), y0 ≤ h → h < y0 + n2 → cf_mx w y0 0 f fc → ∀ (H : Heap) (locs : List Loc), va_P (dC, dI) vwCm [(h0, .inr (0, [.ref a1, .ref a2, .int (nI w), .int (nI h), .int (nI kw), .int (nI kh)])), (a1, .inl (cA, 4096, .inl fc)), (a2, .inl (cB, 4096, .inl g))] H → va_D A [(h0, .inr (0, [.ref a1, .ref a2, .int (nI w), .int (nI h), .int (nI kw), .int (nI kh)])), (a1, .inl (cA, 4096, .inl fc)), (a2, .inl (cB, 4096, .inl g))] → va_S A s.heap H locs → ∀ (ls : Array Slot), lv_has ls 3 [(0, .ref h0), (1, .int (nI y0))] → W p l e (headSpec wsX0_mirror ({ frames := 2, cells := 0, slots := 0, locals := 46 })).room s m ([.ref h0] : List Value).toArray below meth c H locs 0 0 (MQ below (va_Qv (fun u : Nat → Int32 => cf_Ag w h (cf_V u) (cf_mi w (cf_V f))) (fun (u : Nat → Int32) (t : State) => va_P (dC, dI) vwCm [(h0, .inr (0, [.ref a1, .ref a2, .int (nI w), .int (nI h), .int (nI kw), .int (nI kh)])), (a1, .inl (cA, 4096, .inl u)), (a2, .inl (cB, 4096, .inl g))] t.heap ∧ va_K (dC, dI) vwCm [(cA, .int), (cB, .int)] t ∧ va_D A [(h0, .inr (0, [.ref a1, .ref a2, .int (nI w), .int (nI h), .int (nI kw), .int (nI kh)])), (a1, .inl (cA, 4096, .inl u)), (a2, .inl (cB, 4096, .inl g))]) A) ([.ref h0] : List Value).toArray s 0 0 A) (F0 m 2 ls []) := by
    intro n2
    induction n2 with
    | zero => intro y0 fc h1 h2; exact absurd h2 (by omega)
    | succ n2 ih2 =>
      intro y0 fc hk2 hn2 hI H locs hP hD hS ls hl
      refine lv_iload_n hx hb dX0_mirror_2 rfl (lv_at hl 1 rfl) ?_
      refine lv_aload_n hx hb dX0_mirror_3 rfl (lv_at hl 0 rfl) ?_
      refine va_get (D := (dC, dI)) (ci := 0) (v := .int (nI h)) (C := RX0) (T := TX0) (N := 6) hx hb hts (by decide +kernel) hown hK hP 0 rfl rfl 3 (by decide) (hts (.fieldLink RX0 17 "CoefTurns" "height" "I") (by decide +kernel)) (fun _ h9 => h9) rfl dX0_mirror_4 ?_
      refine lv_icmp_ge (tgt := 55) hx hb dX0_mirror_7 (by decide) (fun c7 => ?_) (fun c7 => ?_)
      · skip
        have c7 := (nI_leI (a := h) (b := y0) (by omega) (by omega)).mp c7
        refine lv_aload_n hx hb dX0_mirror_55 rfl (lv_at hl 0 rfl) ?_
        refine lv_iconst (v := nI 1) hx hb dX0_mirror_56 (by decide +kernel) ?_
        have hPc := hP.sub (ws' := [(h0, .inr (0, [.ref a1, .ref a2, .int (nI w), .int (nI h), .int (nI kw), .int (nI kh)])), (a1, .inl (cA, 4096, .inl fc)), (a2, .inl (cB, 4096, .inl g))]) [0, 1, 2] rfl
        have hKc := hK.sub (tys' := [(cA, .int), (cB, .int)]) [0, 1] rfl
        have hDc := hD.sub (ws' := [(h0, .inr (0, [.ref a1, .ref a2, .int (nI w), .int (nI h), .int (nI kw), .int (nI kh)])), (a1, .inl (cA, 4096, .inl fc)), (a2, .inl (cB, 4096, .inl g))]) [0, 1, 2] (by decide) rfl
        have hFc := va_free (wc := [(h0, .inr (0, [.ref a1, .ref a2, .int (nI w), .int (nI h), .int (nI kw), .int (nI kh)])), (a1, .inl (cA, 4096, .inl fc)), (a2, .inl (cB, 4096, .inl g))]) hD hS hA [0, 1, 2] rfl
        refine va_callv (va_runV (As := [.int (nI 1)]) (rest := []) ⟨hx, hb, hml, hown, hts⟩ (kX0_negatePlaces l dC dI H.size h0 a1 a2 cA cB fc g w h kw kh 1 (by omega) (by omega) (by decide)) (cwV 1 hts gX0_mirror_X0_negatePlaces rfl rfl rfl (by decide +kernel) ⟨Nat.le_of_ble_eq_true rfl, Nat.le_of_ble_eq_true rfl⟩) ⟨fun a U g mk q => by obtain ⟨q0, q1, qP, qK, qD⟩ := q; exact ⟨q0, q1, qP, va_K.moved (u := U) (U := U.calling g mk a) (Vm.Alike.refl U.vm) qK, qD⟩, va_recv hKc hPc (ci := 0) (q0 := 0) rfl rfl, fun U hU hW => ⟨rfl, by rw [hU], by rw [hU]; exact hPc, va_K.moved hW.alike hKc, hDc.weaken (fun _ _ _ _ => trivial)⟩⟩ rfl rfl hl.1 rfl (lv_room (Nat.le_of_ble_eq_true rfl)) dX0_mirror_57 ⟨Nat.le_of_ble_eq_true rfl, Nat.le_of_ble_eq_true rfl⟩) hS (fun q _ h => hFc q h) hFc (fun u57 t H1 locs ht hvm w57 hB hz1 hk1 hS => ?_)
        obtain ⟨hP1, -, hD1⟩ := hB
        rw [ht] at hP1
        try dsimp only at w57
        obtain ⟨hP, hD⟩ := va_join (wr := []) (w1 := [(h0, .inr (0, [.ref a1, .ref a2, .int (nI w), .int (nI h), .int (nI kw), .int (nI kh)])), (a1, .inl (cA, 4096, .inl u57)), (a2, .inl (cB, 4096, .inl g))]) hP hD [0, 1, 2] [] rfl rfl (by decide) (by decide) hk1 hFc hP1 hD1
        generalize H1 = H at hP hS ⊢
        have hP : va_P (dC, dI) vwCm [(h0, .inr (0, [.ref a1, .ref a2, .int (nI w), .int (nI h), .int (nI kw), .int (nI kh)])), (a1, .inl (cA, 4096, .inl u57)), (a2, .inl (cB, 4096, .inl g))] H := hP
        have hD : va_D A [(h0, .inr (0, [.ref a1, .ref a2, .int (nI w), .int (nI h), .int (nI kw), .int (nI kh)])), (a1, .inl (cA, 4096, .inl u57)), (a2, .inl (cB, 4096, .inl g))] := hD
        have hP9 := hP.sub (ws' := [(h0, .inr (0, [.ref a1, .ref a2, .int (nI w), .int (nI h), .int (nI kw), .int (nI kh)])), (a1, .inl (cA, 4096, .inl u57)), (a2, .inl (cB, 4096, .inl g))]) [0, 1, 2] rfl
        have hD9 := hD.sub (ws' := [(h0, .inr (0, [.ref a1, .ref a2, .int (nI w), .int (nI h), .int (nI kw), .int (nI kh)])), (a1, .inl (cA, 4096, .inl u57)), (a2, .inl (cB, 4096, .inl g))]) [0, 1, 2] (by decide) rfl
        exact W.vret hx hb hr (fun t ht hW => ⟨⟨u57, rfl, (by have e : y0 = h := (by omega); rw [e] at hI; exact cf_mi_fin hI w57), by rw [ht]; exact hP9, va_K.moved hW.alike hK, hD9⟩, hS.F ht⟩) hS.2.2 dX0_mirror_60
      · skip
        have c7 := mt (nI_leI (a := h) (b := y0) (by omega) (by omega)).mpr c7
        refine lv_iconst (v := nI 0) hx hb dX0_mirror_10 (by decide +kernel) ?_
        refine lv_istore_n (lv' := [(2, .int (nI 0)), (0, .ref h0), (1, .int (nI y0))]) hx hb dX0_mirror_11 rfl hl (by decide) rfl (fun ls hl => ?_)
        have lp12 : ∀ (n12 : Nat) (x0 : Nat) (fd : Nat → Int32), x0 ≤ w / 2 → w / 2 < x0 + n12 → cf_mx w y0 x0 f fd → ∀ (H : Heap) (locs : List Loc), va_P (dC, dI) vwCm [(h0, .inr (0, [.ref a1, .ref a2, .int (nI w), .int (nI h), .int (nI kw), .int (nI kh)])), (a1, .inl (cA, 4096, .inl fd)), (a2, .inl (cB, 4096, .inl g))] H → va_D A [(h0, .inr (0, [.ref a1, .ref a2, .int (nI w), .int (nI h), .int (nI kw), .int (nI kh)])), (a1, .inl (cA, 4096, .inl fd)), (a2, .inl (cB, 4096, .inl g))] → va_S A s.heap H locs → ∀ (ls : Array Slot), lv_has ls 3 [(0, .ref h0), (1, .int (nI y0)), (2, .int (nI x0))] → W p l e (headSpec wsX0_mirror ({ frames := 2, cells := 0, slots := 0, locals := 46 })).room s m ([.ref h0] : List Value).toArray below meth c H locs 0 0 (MQ below (va_Qv (fun u : Nat → Int32 => cf_Ag w h (cf_V u) (cf_mi w (cf_V f))) (fun (u : Nat → Int32) (t : State) => va_P (dC, dI) vwCm [(h0, .inr (0, [.ref a1, .ref a2, .int (nI w), .int (nI h), .int (nI kw), .int (nI kh)])), (a1, .inl (cA, 4096, .inl u)), (a2, .inl (cB, 4096, .inl g))] t.heap ∧ va_K (dC, dI) vwCm [(cA, .int), (cB, .int)] t ∧ va_D A [(h0, .inr (0, [.ref a1, .ref a2, .int (nI w), .int (nI h), .int (nI kw), .int (nI kh)])), (a1, .inl (cA, 4096, .inl u)), (a2, .inl (cB, 4096, .inl g))]) A) ([.ref h0] : List Value).toArray s 0 0 A) (F0 m 12 ls []) := by
          intro n12
          induction n12 with
          | zero => intro x0 fd h1 h2; exact absurd h2 (by omega)
          | succ n12 ih12 =>
            intro x0 fd hk12 hn12 hI1 H locs hP hD hS ls hl
            refine lv_iload_n hx hb dX0_mirror_12 rfl (lv_at hl 2 rfl) ?_
            refine lv_aload_n hx hb dX0_mirror_13 rfl (lv_at hl 0 rfl) ?_
            refine va_get (D := (dC, dI)) (ci := 0) (v := .int (nI w)) (C := RX0) (T := TX0) (N := 6) hx hb hts (by decide +kernel) hown hK hP 0 rfl rfl 2 (by decide) (hts (.fieldLink RX0 13 "CoefTurns" "width" "I") (by decide +kernel)) (fun _ h9 => h9) rfl dX0_mirror_14 ?_
            refine lv_iconst (v := nI 2) hx hb dX0_mirror_17 (by decide +kernel) ?_
            refine lv_idiv hx hb dX0_mirror_18 (nI_ne0 (by omega) (by omega)) ?_
            refine cf_top (pk_div (by omega) (by omega) (by omega)) ?_
            refine lv_icmp_ge (tgt := 49) hx hb dX0_mirror_19 (by decide) (fun c19 => ?_) (fun c19 => ?_)
            · skip
              have c19 := (nI_leI (a := w / 2) (b := x0) (by omega) (by omega)).mp c19
              refine lv_iinc (v := nI (y0 + 1)) (lv' := [(1, .int (nI (y0 + 1))), (0, .ref h0), (2, .int (nI x0))]) hx hb dX0_mirror_49 hl (k := 1) rfl (by rw [← nI_add]; rfl) (by decide) rfl (fun ls hl => ?_)
              refine lv_goto (tgt := 2) hx hb dX0_mirror_52 (by decide) ?_
              exact ih2 (y0 + 1) fd (by omega) (by omega) (cf_mx_r hI1 (by omega)) H locs hP hD hS ls (lv_sub hl [1, 0] rfl)
            · skip
              have c19 := mt (nI_leI (a := w / 2) (b := x0) (by omega) (by omega)).mpr c19
              refine lv_aload_n hx hb dX0_mirror_22 rfl (lv_at hl 0 rfl) ?_
              refine lv_iload_n hx hb dX0_mirror_23 rfl (lv_at hl 2 rfl) ?_
              refine lv_iload_n hx hb dX0_mirror_24 rfl (lv_at hl 1 rfl) ?_
              refine vp_callSi (W.runS (As := [.int (nI x0), .int (nI y0)]) (rest := [.ref h0]) ⟨hx, hb, hml, hown, hts⟩ (kX0_blockStart l x0 y0) (va_cwS 2 hts gX0_mirror_X0_blockStart rfl rfl rfl (by decide +kernel) ⟨Nat.le_of_ble_eq_true rfl, Nat.le_of_ble_eq_true rfl⟩) ⟨fun a U g mk q => q, fun U hU hW => ⟨rfl, trivial⟩⟩ rfl rfl hl.1 rfl (lv_room (Nat.le_of_ble_eq_true rfl)) dX0_mirror_25 ⟨Nat.le_of_ble_eq_true rfl, Nat.le_of_ble_eq_true rfl⟩) (fun r25 w25 => ?_)
              subst w25
              refine lv_aload_n hx hb dX0_mirror_28 rfl (lv_at hl 0 rfl) ?_
              refine va_get (D := (dC, dI)) (ci := 0) (v := .int (nI w)) (C := RX0) (T := TX0) (N := 6) hx hb hts (by decide +kernel) hown hK hP 0 rfl rfl 2 (by decide) (hts (.fieldLink RX0 13 "CoefTurns" "width" "I") (by decide +kernel)) (fun _ h9 => h9) rfl dX0_mirror_29 ?_
              refine lv_iconst (v := nI 1) hx hb dX0_mirror_32 (by decide +kernel) ?_
              refine lv_isub hx hb dX0_mirror_33 ?_
              refine cf_top (pk_sub (by omega)) ?_
              refine lv_iload_n hx hb dX0_mirror_34 rfl (lv_at hl 2 rfl) ?_
              refine lv_isub hx hb dX0_mirror_35 ?_
              refine cf_top (pk_sub (by omega)) ?_
              refine lv_iload_n hx hb dX0_mirror_36 rfl (lv_at hl 1 rfl) ?_
              refine vp_callSi (W.runS (As := [.int (nI ((w - 1) - x0)), .int (nI y0)]) (rest := [.int (nI (64 * (8 * y0 + x0))), .ref h0]) ⟨hx, hb, hml, hown, hts⟩ (kX0_blockStart l ((w - 1) - x0) y0) (va_cwS 2 hts gX0_mirror_X0_blockStart rfl rfl rfl (by decide +kernel) ⟨Nat.le_of_ble_eq_true rfl, Nat.le_of_ble_eq_true rfl⟩) ⟨fun a U g mk q => q, fun U hU hW => ⟨rfl, trivial⟩⟩ rfl rfl hl.1 rfl (lv_room (Nat.le_of_ble_eq_true rfl)) dX0_mirror_37 ⟨Nat.le_of_ble_eq_true rfl, Nat.le_of_ble_eq_true rfl⟩) (fun r37 w37 => ?_)
              subst w37
              have hPc := hP.sub (ws' := [(h0, .inr (0, [.ref a1, .ref a2, .int (nI w), .int (nI h), .int (nI kw), .int (nI kh)])), (a1, .inl (cA, 4096, .inl fd)), (a2, .inl (cB, 4096, .inl g))]) [0, 1, 2] rfl
              have hKc := hK.sub (tys' := [(cA, .int), (cB, .int)]) [0, 1] rfl
              have hDc := hD.sub (ws' := [(h0, .inr (0, [.ref a1, .ref a2, .int (nI w), .int (nI h), .int (nI kw), .int (nI kh)])), (a1, .inl (cA, 4096, .inl fd)), (a2, .inl (cB, 4096, .inl g))]) [0, 1, 2] (by decide) rfl
              have hFc := va_free (wc := [(h0, .inr (0, [.ref a1, .ref a2, .int (nI w), .int (nI h), .int (nI kw), .int (nI kh)])), (a1, .inl (cA, 4096, .inl fd)), (a2, .inl (cB, 4096, .inl g))]) hD hS hA [0, 1, 2] rfl
              refine va_callv (va_runV (As := [.int (nI (64 * (8 * y0 + x0))), .int (nI (64 * (8 * y0 + ((w - 1) - x0))))]) (rest := []) ⟨hx, hb, hml, hown, hts⟩ (kX0_exchangeBlocks l dC dI H.size h0 a1 a2 cA cB fd g w h kw kh (8 * y0 + x0) (8 * y0 + ((w - 1) - x0)) (by omega) (by omega)) (cwV 2 hts gX0_mirror_X0_exchangeBlocks rfl rfl rfl (by decide +kernel) ⟨Nat.le_of_ble_eq_true rfl, Nat.le_of_ble_eq_true rfl⟩) ⟨fun a U g mk q => by obtain ⟨q0, q1, qP, qK, qD⟩ := q; exact ⟨q0, q1, qP, va_K.moved (u := U) (U := U.calling g mk a) (Vm.Alike.refl U.vm) qK, qD⟩, va_recv hKc hPc (ci := 0) (q0 := 0) rfl rfl, fun U hU hW => ⟨rfl, by rw [hU], by rw [hU]; exact hPc, va_K.moved hW.alike hKc, hDc.weaken (fun _ _ _ _ => trivial)⟩⟩ rfl rfl hl.1 rfl (lv_room (Nat.le_of_ble_eq_true rfl)) dX0_mirror_40 ⟨Nat.le_of_ble_eq_true rfl, Nat.le_of_ble_eq_true rfl⟩) hS (fun q _ h => hFc q h) hFc (fun u40 t H1 locs ht hvm w40 hB hz1 hk1 hS => ?_)
              obtain ⟨hP1, -, hD1⟩ := hB
              rw [ht] at hP1
              try dsimp only at w40
              obtain ⟨hP, hD⟩ := va_join (wr := []) (w1 := [(h0, .inr (0, [.ref a1, .ref a2, .int (nI w), .int (nI h), .int (nI kw), .int (nI kh)])), (a1, .inl (cA, 4096, .inl u40)), (a2, .inl (cB, 4096, .inl g))]) hP hD [0, 1, 2] [] rfl rfl (by decide) (by decide) hk1 hFc hP1 hD1
              generalize H1 = H at hP hS ⊢
              have hP : va_P (dC, dI) vwCm [(h0, .inr (0, [.ref a1, .ref a2, .int (nI w), .int (nI h), .int (nI kw), .int (nI kh)])), (a1, .inl (cA, 4096, .inl u40)), (a2, .inl (cB, 4096, .inl g))] H := hP
              have hD : va_D A [(h0, .inr (0, [.ref a1, .ref a2, .int (nI w), .int (nI h), .int (nI kw), .int (nI kh)])), (a1, .inl (cA, 4096, .inl u40)), (a2, .inl (cB, 4096, .inl g))] := hD
              refine lv_iinc (v := nI (x0 + 1)) (lv' := [(2, .int (nI (x0 + 1))), (0, .ref h0), (1, .int (nI y0))]) hx hb dX0_mirror_43 hl (k := 2) rfl (by rw [← nI_add]; rfl) (by decide) rfl (fun ls hl => ?_)
              refine lv_goto (tgt := 12) hx hb dX0_mirror_46 (by decide) ?_
              exact ih12 (x0 + 1) u40 (by omega) (by omega) (cf_mx_s hI1 hw (by omega) w40) H locs hP hD hS ls (lv_sub hl [1, 2, 0] rfl)
        exact lp12 (w / 2 + 1) 0 fc (by omega) (by omega) hI H locs hP hD hS ls (lv_sub hl [1, 2, 0] rfl)
  exact lp2 (h + 1) 0 f (by omega) (by omega) cf_mx_0 s.heap [] hP hD hS ls (lv_sub hl [1, 0] rfl)
set_option maxHeartbeats 4000000 in
set_option maxRecDepth 100000 in
/-- X0_flip -/
theorem kX0_flip (l : Launch) (dC : Nat → ClassId) (dI : Nat → Nat → Nat) (sz : Nat) (h0 a1 a2 : Nat) (cA cB : ClassId) (f g : Nat → Int32) (w h kw kh : Nat) (hw : w ≤ 8) (hh : h ≤ 8) (hw1 : 1 ≤ w) (hh1 : 1 ≤ h) : Met l yX0_flip wsX0_flip ({ frames := 2, cells := 0, slots := 0, locals := 46 }) (va_Pc [.ref h0] (fun U => U.heap.size = sz ∧ va_P (dC, dI) vwCm [(h0, .inr (0, [.ref a1, .ref a2, .int (nI w), .int (nI h), .int (nI kw), .int (nI kh)])), (a1, .inl (cA, 4096, .inl f)), (a2, .inl (cB, 4096, .inl g))] U.heap ∧ va_K (dC, dI) vwCm [(cA, .int), (cB, .int)] U ∧ va_D (fun _ => True) [(h0, .inr (0, [.ref a1, .ref a2, .int (nI w), .int (nI h), .int (nI kw), .int (nI kh)])), (a1, .inl (cA, 4096, .inl f)), (a2, .inl (cB, 4096, .inl g))])) (va_Qv (fun u : Nat → Int32 => cf_Ag w h (cf_V u) (cf_fl h (cf_V f))) (fun (u : Nat → Int32) (t : State) => va_P (dC, dI) vwCm [(h0, .inr (0, [.ref a1, .ref a2, .int (nI w), .int (nI h), .int (nI kw), .int (nI kh)])), (a1, .inl (cA, 4096, .inl u)), (a2, .inl (cB, 4096, .inl g))] t.heap ∧ va_K (dC, dI) vwCm [(cA, .int), (cB, .int)] t ∧ va_D (va_A [(h0, .inr (0, [.ref a1, .ref a2, .int (nI w), .int (nI h), .int (nI kw), .int (nI kh)])), (a1, .inl (cA, 4096, .inl f)), (a2, .inl (cB, 4096, .inl g))] sz) [(h0, .inr (0, [.ref a1, .ref a2, .int (nI w), .int (nI h), .int (nI kw), .int (nI kh)])), (a1, .inl (cA, 4096, .inl u)), (a2, .inl (cB, 4096, .inl g))]) (va_A [(h0, .inr (0, [.ref a1, .ref a2, .int (nI w), .int (nI h), .int (nI kw), .int (nI kh)])), (a1, .inl (cA, 4096, .inl f)), (a2, .inl (cB, 4096, .inl g))] sz)) 0 0 (va_A [(h0, .inr (0, [.ref a1, .ref a2, .int (nI w), .int (nI h), .int (nI kw), .int (nI kh)])), (a1, .inl (cA, 4096, .inl f)), (a2, .inl (cB, 4096, .inl g))] sz) := by
  refine Met.ofW (cc := cX0_flip) (maxL := 3) (ret := none) (by decide) rfl ?_
  intro p e s m args below meth c s₁ B hml hv
  obtain ⟨rfl, hsz, hP, hK, hD0⟩ := hv
  have hx := B.exec
  have hb := B.bytes
  have hr := B.returns
  have hts := atoms_spec (ws := wsX0_flip) B.pre
  have hown : s.vm.findClass RX0 = some m.cls := findClass_of_methodNamed B.named
  have hlocks := B.notSynchronized
  subst hsz
  have hD := hD0.self (sz := s.heap.size)
  generalize hAe : va_A [(h0, .inr (0, [.ref a1, .ref a2, .int (nI w), .int (nI h), .int (nI kw), .int (nI kh)])), (a1, .inl (cA, 4096, .inl f)), (a2, .inl (cB, 4096, .inl g))] s.heap.size = A at hD ⊢
  have hA : ∀ q : Nat, s.heap.size ≤ q → A q := fun q h => by rw [← hAe]; exact Or.inr h
  have hS : va_S A s.heap s.heap [] := va_S.rf
  have hP : va_P (dC, dI) vwCm [(h0, .inr (0, [.ref a1, .ref a2, .int (nI w), .int (nI h), .int (nI kw), .int (nI kh)])), (a1, .inl (cA, 4096, .inl f)), (a2, .inl (cB, 4096, .inl g))] s.heap := hP
  have hl := lv_entry ([.ref h0]) (n := 3) (Nat.le_of_ble_eq_true rfl)
  rw [lg_entry_eq]
  generalize (lg_sl ([.ref h0]) ++ List.replicate (3 - (lg_sl ([.ref h0])).length) Slot.unset).toArray = ls at hl ⊢
  have hl : lv_has ls 3 [(0, .ref h0)] := hl
  refine lv_iconst (v := nI 0) hx hb dX0_flip_0 (by decide +kernel) ?_
  refine lv_istore_n (lv' := [(1, .int (nI 0)), (0, .ref h0)]) hx hb dX0_flip_1 rfl hl (by decide) rfl (fun ls hl => ?_)
  have lp2 : ∀ (n2 : Nat) (y0 : Nat) (fc : Nat → Int32), y0 ≤ h / 2 → h / 2 < y0 + n2 → cf_fx w h y0 0 f fc → ∀ (H : Heap) (locs : List Loc), va_P (dC, dI) vwCm [(h0, .inr (0, [.ref a1, .ref a2, .int (nI w), .int (nI h), .int (nI kw), .int (nI kh)])), (a1, .inl (cA, 4096, .inl fc)), (a2, .inl (cB, 4096, .inl g))] H → va_D A [(h0, .inr (0, [.ref a1, .ref a2, .int (nI w), .int (nI h), .int (nI kw), .int (nI kh)])), (a1, .inl (cA, 4096, .inl fc)), (a2, .inl (cB, 4096, .inl g))] → va_S A s.heap H locs → ∀ (ls : Array Slot), lv_has ls 3 [(0, .ref h0), (1, .int (nI y0))] → W p l e (headSpec wsX0_flip ({ frames := 2, cells := 0, slots := 0, locals := 46 })).room s m ([.ref h0] : List Value).toArray below meth c H locs 0 0 (MQ below (va_Qv (fun u : Nat → Int32 => cf_Ag w h (cf_V u) (cf_fl h (cf_V f))) (fun (u : Nat → Int32) (t : State) => va_P (dC, dI) vwCm [(h0, .inr (0, [.ref a1, .ref a2, .int (nI w), .int (nI h), .int (nI kw), .int (nI kh)])), (a1, .inl (cA, 4096, .inl u)), (a2, .inl (cB, 4096, .inl g))] t.heap ∧ va_K (dC, dI) vwCm [(cA, .int), (cB, .int)] t ∧ va_D A [(h0, .inr (0, [.ref a1, .ref a2, .int (nI w), .int (nI h), .int (nI kw), .int (nI kh)])), (a1, .inl (cA, 4096, .inl u)), (a2, .inl (cB, 4096, .inl g))]) A) ([.ref h0] : List Value).toArray s 0 0 A) (F0 m 2 ls []) := by
    intro n2
    induction n2 with
    | zero => intro y0 fc h1 h2; exact absurd h2 (by omega)
    | succ n2 ih2 =>
      intro y0 fc hk2 hn2 hI H locs hP hD hS ls hl
      refine lv_iload_n hx hb dX0_flip_2 rfl (lv_at hl 1 rfl) ?_
      refine lv_aload_n hx hb dX0_flip_3 rfl (lv_at hl 0 rfl) ?_
      refine va_get (D := (dC, dI)) (ci := 0) (v := .int (nI h)) (C := RX0) (T := TX0) (N := 6) hx hb hts (by decide +kernel) hown hK hP 0 rfl rfl 3 (by decide) (hts (.fieldLink RX0 17 "CoefTurns" "height" "I") (by decide +kernel)) (fun _ h9 => h9) rfl dX0_flip_4 ?_
      refine lv_iconst (v := nI 2) hx hb dX0_flip_7 (by decide +kernel) ?_
      refine lv_idiv hx hb dX0_flip_8 (nI_ne0 (by omega) (by omega)) ?_
      refine cf_top (pk_div (by omega) (by omega) (by omega)) ?_
      refine lv_icmp_ge (tgt := 55) hx hb dX0_flip_9 (by decide) (fun c9 => ?_) (fun c9 => ?_)
      · skip
        have c9 := (nI_leI (a := h / 2) (b := y0) (by omega) (by omega)).mp c9
        refine lv_aload_n hx hb dX0_flip_55 rfl (lv_at hl 0 rfl) ?_
        refine lv_bipush (v := nI 8) hx hb dX0_flip_56 (by decide +kernel) ?_
        have hPc := hP.sub (ws' := [(h0, .inr (0, [.ref a1, .ref a2, .int (nI w), .int (nI h), .int (nI kw), .int (nI kh)])), (a1, .inl (cA, 4096, .inl fc)), (a2, .inl (cB, 4096, .inl g))]) [0, 1, 2] rfl
        have hKc := hK.sub (tys' := [(cA, .int), (cB, .int)]) [0, 1] rfl
        have hDc := hD.sub (ws' := [(h0, .inr (0, [.ref a1, .ref a2, .int (nI w), .int (nI h), .int (nI kw), .int (nI kh)])), (a1, .inl (cA, 4096, .inl fc)), (a2, .inl (cB, 4096, .inl g))]) [0, 1, 2] (by decide) rfl
        have hFc := va_free (wc := [(h0, .inr (0, [.ref a1, .ref a2, .int (nI w), .int (nI h), .int (nI kw), .int (nI kh)])), (a1, .inl (cA, 4096, .inl fc)), (a2, .inl (cB, 4096, .inl g))]) hD hS hA [0, 1, 2] rfl
        refine va_callv (va_runV (As := [.int (nI 8)]) (rest := []) ⟨hx, hb, hml, hown, hts⟩ (kX0_negatePlaces l dC dI H.size h0 a1 a2 cA cB fc g w h kw kh 8 (by omega) (by omega) (by decide)) (cwV 1 hts gX0_flip_X0_negatePlaces rfl rfl rfl (by decide +kernel) ⟨Nat.le_of_ble_eq_true rfl, Nat.le_of_ble_eq_true rfl⟩) ⟨fun a U g mk q => by obtain ⟨q0, q1, qP, qK, qD⟩ := q; exact ⟨q0, q1, qP, va_K.moved (u := U) (U := U.calling g mk a) (Vm.Alike.refl U.vm) qK, qD⟩, va_recv hKc hPc (ci := 0) (q0 := 0) rfl rfl, fun U hU hW => ⟨rfl, by rw [hU], by rw [hU]; exact hPc, va_K.moved hW.alike hKc, hDc.weaken (fun _ _ _ _ => trivial)⟩⟩ rfl rfl hl.1 rfl (lv_room (Nat.le_of_ble_eq_true rfl)) dX0_flip_58 ⟨Nat.le_of_ble_eq_true rfl, Nat.le_of_ble_eq_true rfl⟩) hS (fun q _ h => hFc q h) hFc (fun u58 t H1 locs ht hvm w58 hB hz1 hk1 hS => ?_)
        obtain ⟨hP1, -, hD1⟩ := hB
        rw [ht] at hP1
        try dsimp only at w58
        obtain ⟨hP, hD⟩ := va_join (wr := []) (w1 := [(h0, .inr (0, [.ref a1, .ref a2, .int (nI w), .int (nI h), .int (nI kw), .int (nI kh)])), (a1, .inl (cA, 4096, .inl u58)), (a2, .inl (cB, 4096, .inl g))]) hP hD [0, 1, 2] [] rfl rfl (by decide) (by decide) hk1 hFc hP1 hD1
        generalize H1 = H at hP hS ⊢
        have hP : va_P (dC, dI) vwCm [(h0, .inr (0, [.ref a1, .ref a2, .int (nI w), .int (nI h), .int (nI kw), .int (nI kh)])), (a1, .inl (cA, 4096, .inl u58)), (a2, .inl (cB, 4096, .inl g))] H := hP
        have hD : va_D A [(h0, .inr (0, [.ref a1, .ref a2, .int (nI w), .int (nI h), .int (nI kw), .int (nI kh)])), (a1, .inl (cA, 4096, .inl u58)), (a2, .inl (cB, 4096, .inl g))] := hD
        have hP9 := hP.sub (ws' := [(h0, .inr (0, [.ref a1, .ref a2, .int (nI w), .int (nI h), .int (nI kw), .int (nI kh)])), (a1, .inl (cA, 4096, .inl u58)), (a2, .inl (cB, 4096, .inl g))]) [0, 1, 2] rfl
        have hD9 := hD.sub (ws' := [(h0, .inr (0, [.ref a1, .ref a2, .int (nI w), .int (nI h), .int (nI kw), .int (nI kh)])), (a1, .inl (cA, 4096, .inl u58)), (a2, .inl (cB, 4096, .inl g))]) [0, 1, 2] (by decide) rfl
        exact W.vret hx hb hr (fun t ht hW => ⟨⟨u58, rfl, (by have e : y0 = h / 2 := (by omega); exact cf_fl_fin hI e w58), by rw [ht]; exact hP9, va_K.moved hW.alike hK, hD9⟩, hS.F ht⟩) hS.2.2 dX0_flip_61
      · skip
        have c9 := mt (nI_leI (a := h / 2) (b := y0) (by omega) (by omega)).mpr c9
        refine lv_iconst (v := nI 0) hx hb dX0_flip_12 (by decide +kernel) ?_
        refine lv_istore_n (lv' := [(2, .int (nI 0)), (0, .ref h0), (1, .int (nI y0))]) hx hb dX0_flip_13 rfl hl (by decide) rfl (fun ls hl => ?_)
        have lp14 : ∀ (n14 : Nat) (x0 : Nat) (fd : Nat → Int32), x0 ≤ w → w < x0 + n14 → cf_fx w h y0 x0 f fd → ∀ (H : Heap) (locs : List Loc), va_P (dC, dI) vwCm [(h0, .inr (0, [.ref a1, .ref a2, .int (nI w), .int (nI h), .int (nI kw), .int (nI kh)])), (a1, .inl (cA, 4096, .inl fd)), (a2, .inl (cB, 4096, .inl g))] H → va_D A [(h0, .inr (0, [.ref a1, .ref a2, .int (nI w), .int (nI h), .int (nI kw), .int (nI kh)])), (a1, .inl (cA, 4096, .inl fd)), (a2, .inl (cB, 4096, .inl g))] → va_S A s.heap H locs → ∀ (ls : Array Slot), lv_has ls 3 [(0, .ref h0), (1, .int (nI y0)), (2, .int (nI x0))] → W p l e (headSpec wsX0_flip ({ frames := 2, cells := 0, slots := 0, locals := 46 })).room s m ([.ref h0] : List Value).toArray below meth c H locs 0 0 (MQ below (va_Qv (fun u : Nat → Int32 => cf_Ag w h (cf_V u) (cf_fl h (cf_V f))) (fun (u : Nat → Int32) (t : State) => va_P (dC, dI) vwCm [(h0, .inr (0, [.ref a1, .ref a2, .int (nI w), .int (nI h), .int (nI kw), .int (nI kh)])), (a1, .inl (cA, 4096, .inl u)), (a2, .inl (cB, 4096, .inl g))] t.heap ∧ va_K (dC, dI) vwCm [(cA, .int), (cB, .int)] t ∧ va_D A [(h0, .inr (0, [.ref a1, .ref a2, .int (nI w), .int (nI h), .int (nI kw), .int (nI kh)])), (a1, .inl (cA, 4096, .inl u)), (a2, .inl (cB, 4096, .inl g))]) A) ([.ref h0] : List Value).toArray s 0 0 A) (F0 m 14 ls []) := by
          intro n14
          induction n14 with
          | zero => intro x0 fd h1 h2; exact absurd h2 (by omega)
          | succ n14 ih14 =>
            intro x0 fd hk14 hn14 hI1 H locs hP hD hS ls hl
            refine lv_iload_n hx hb dX0_flip_14 rfl (lv_at hl 2 rfl) ?_
            refine lv_aload_n hx hb dX0_flip_15 rfl (lv_at hl 0 rfl) ?_
            refine va_get (D := (dC, dI)) (ci := 0) (v := .int (nI w)) (C := RX0) (T := TX0) (N := 6) hx hb hts (by decide +kernel) hown hK hP 0 rfl rfl 2 (by decide) (hts (.fieldLink RX0 13 "CoefTurns" "width" "I") (by decide +kernel)) (fun _ h9 => h9) rfl dX0_flip_16 ?_
            refine lv_icmp_ge (tgt := 49) hx hb dX0_flip_19 (by decide) (fun c19 => ?_) (fun c19 => ?_)
            · skip
              have c19 := (nI_leI (a := w) (b := x0) (by omega) (by omega)).mp c19
              refine lv_iinc (v := nI (y0 + 1)) (lv' := [(1, .int (nI (y0 + 1))), (0, .ref h0), (2, .int (nI x0))]) hx hb dX0_flip_49 hl (k := 1) rfl (by rw [← nI_add]; rfl) (by decide) rfl (fun ls hl => ?_)
              refine lv_goto (tgt := 2) hx hb dX0_flip_52 (by decide) ?_
              exact ih2 (y0 + 1) fd (by omega) (by omega) (cf_fx_r hI1 (by omega)) H locs hP hD hS ls (lv_sub hl [1, 0] rfl)
            · skip
              have c19 := mt (nI_leI (a := w) (b := x0) (by omega) (by omega)).mpr c19
              refine lv_aload_n hx hb dX0_flip_22 rfl (lv_at hl 0 rfl) ?_
              refine lv_iload_n hx hb dX0_flip_23 rfl (lv_at hl 2 rfl) ?_
              refine lv_iload_n hx hb dX0_flip_24 rfl (lv_at hl 1 rfl) ?_
              refine vp_callSi (W.runS (As := [.int (nI x0), .int (nI y0)]) (rest := [.ref h0]) ⟨hx, hb, hml, hown, hts⟩ (kX0_blockStart l x0 y0) (va_cwS 2 hts gX0_flip_X0_blockStart rfl rfl rfl (by decide +kernel) ⟨Nat.le_of_ble_eq_true rfl, Nat.le_of_ble_eq_true rfl⟩) ⟨fun a U g mk q => q, fun U hU hW => ⟨rfl, trivial⟩⟩ rfl rfl hl.1 rfl (lv_room (Nat.le_of_ble_eq_true rfl)) dX0_flip_25 ⟨Nat.le_of_ble_eq_true rfl, Nat.le_of_ble_eq_true rfl⟩) (fun r25 w25 => ?_)
              subst w25
              refine lv_iload_n hx hb dX0_flip_28 rfl (lv_at hl 2 rfl) ?_
              refine lv_aload_n hx hb dX0_flip_29 rfl (lv_at hl 0 rfl) ?_
              refine va_get (D := (dC, dI)) (ci := 0) (v := .int (nI h)) (C := RX0) (T := TX0) (N := 6) hx hb hts (by decide +kernel) hown hK hP 0 rfl rfl 3 (by decide) (hts (.fieldLink RX0 17 "CoefTurns" "height" "I") (by decide +kernel)) (fun _ h9 => h9) rfl dX0_flip_30 ?_
              refine lv_iconst (v := nI 1) hx hb dX0_flip_33 (by decide +kernel) ?_
              refine lv_isub hx hb dX0_flip_34 ?_
              refine cf_top (pk_sub (by omega)) ?_
              refine lv_iload_n hx hb dX0_flip_35 rfl (lv_at hl 1 rfl) ?_
              refine lv_isub hx hb dX0_flip_36 ?_
              refine cf_top (pk_sub (by omega)) ?_
              refine vp_callSi (W.runS (As := [.int (nI x0), .int (nI ((h - 1) - y0))]) (rest := [.int (nI (64 * (8 * y0 + x0))), .ref h0]) ⟨hx, hb, hml, hown, hts⟩ (kX0_blockStart l x0 ((h - 1) - y0)) (va_cwS 2 hts gX0_flip_X0_blockStart rfl rfl rfl (by decide +kernel) ⟨Nat.le_of_ble_eq_true rfl, Nat.le_of_ble_eq_true rfl⟩) ⟨fun a U g mk q => q, fun U hU hW => ⟨rfl, trivial⟩⟩ rfl rfl hl.1 rfl (lv_room (Nat.le_of_ble_eq_true rfl)) dX0_flip_37 ⟨Nat.le_of_ble_eq_true rfl, Nat.le_of_ble_eq_true rfl⟩) (fun r37 w37 => ?_)
              subst w37
              have hPc := hP.sub (ws' := [(h0, .inr (0, [.ref a1, .ref a2, .int (nI w), .int (nI h), .int (nI kw), .int (nI kh)])), (a1, .inl (cA, 4096, .inl fd)), (a2, .inl (cB, 4096, .inl g))]) [0, 1, 2] rfl
              have hKc := hK.sub (tys' := [(cA, .int), (cB, .int)]) [0, 1] rfl
              have hDc := hD.sub (ws' := [(h0, .inr (0, [.ref a1, .ref a2, .int (nI w), .int (nI h), .int (nI kw), .int (nI kh)])), (a1, .inl (cA, 4096, .inl fd)), (a2, .inl (cB, 4096, .inl g))]) [0, 1, 2] (by decide) rfl
              have hFc := va_free (wc := [(h0, .inr (0, [.ref a1, .ref a2, .int (nI w), .int (nI h), .int (nI kw), .int (nI kh)])), (a1, .inl (cA, 4096, .inl fd)), (a2, .inl (cB, 4096, .inl g))]) hD hS hA [0, 1, 2] rfl
              refine va_callv (va_runV (As := [.int (nI (64 * (8 * y0 + x0))), .int (nI (64 * (8 * ((h - 1) - y0) + x0)))]) (rest := []) ⟨hx, hb, hml, hown, hts⟩ (kX0_exchangeBlocks l dC dI H.size h0 a1 a2 cA cB fd g w h kw kh (8 * y0 + x0) (8 * ((h - 1) - y0) + x0) (by omega) (by omega)) (cwV 2 hts gX0_flip_X0_exchangeBlocks rfl rfl rfl (by decide +kernel) ⟨Nat.le_of_ble_eq_true rfl, Nat.le_of_ble_eq_true rfl⟩) ⟨fun a U g mk q => by obtain ⟨q0, q1, qP, qK, qD⟩ := q; exact ⟨q0, q1, qP, va_K.moved (u := U) (U := U.calling g mk a) (Vm.Alike.refl U.vm) qK, qD⟩, va_recv hKc hPc (ci := 0) (q0 := 0) rfl rfl, fun U hU hW => ⟨rfl, by rw [hU], by rw [hU]; exact hPc, va_K.moved hW.alike hKc, hDc.weaken (fun _ _ _ _ => trivial)⟩⟩ rfl rfl hl.1 rfl (lv_room (Nat.le_of_ble_eq_true rfl)) dX0_flip_40 ⟨Nat.le_of_ble_eq_true rfl, Nat.le_of_ble_eq_true rfl⟩) hS (fun q _ h => hFc q h) hFc (fun u40 t H1 locs ht hvm w40 hB hz1 hk1 hS => ?_)
              obtain ⟨hP1, -, hD1⟩ := hB
              rw [ht] at hP1
              try dsimp only at w40
              obtain ⟨hP, hD⟩ := va_join (wr := []) (w1 := [(h0, .inr (0, [.ref a1, .ref a2, .int (nI w), .int (nI h), .int (nI kw), .int (nI kh)])), (a1, .inl (cA, 4096, .inl u40)), (a2, .inl (cB, 4096, .inl g))]) hP hD [0, 1, 2] [] rfl rfl (by decide) (by decide) hk1 hFc hP1 hD1
              generalize H1 = H at hP hS ⊢
              have hP : va_P (dC, dI) vwCm [(h0, .inr (0, [.ref a1, .ref a2, .int (nI w), .int (nI h), .int (nI kw), .int (nI kh)])), (a1, .inl (cA, 4096, .inl u40)), (a2, .inl (cB, 4096, .inl g))] H := hP
              have hD : va_D A [(h0, .inr (0, [.ref a1, .ref a2, .int (nI w), .int (nI h), .int (nI kw), .int (nI kh)])), (a1, .inl (cA, 4096, .inl u40)), (a2, .inl (cB, 4096, .inl g))] := hD
              refine lv_iinc (v := nI (x0 + 1)) (lv' := [(2, .int (nI (x0 + 1))), (0, .ref h0), (1, .int (nI y0))]) hx hb dX0_flip_43 hl (k := 2) rfl (by rw [← nI_add]; rfl) (by decide) rfl (fun ls hl => ?_)
              refine lv_goto (tgt := 14) hx hb dX0_flip_46 (by decide) ?_
              exact ih14 (x0 + 1) u40 (by omega) (by omega) (cf_fx_s hI1 hw (by omega) (by omega) w40) H locs hP hD hS ls (lv_sub hl [1, 2, 0] rfl)
        exact lp14 (w + 1) 0 fc (by omega) (by omega) hI H locs hP hD hS ls (lv_sub hl [1, 2, 0] rfl)
  exact lp2 (h / 2 + 1) 0 f (by omega) (by omega) cf_fx_0 s.heap [] hP hD hS ls (lv_sub hl [1, 0] rfl)
end
section
set_option maxHeartbeats 4000000 in
set_option maxRecDepth 100000 in
/-- X0_keep -/
theorem kX0_keep (l : Launch) (dC : Nat → ClassId) (dI : Nat → Nat → Nat) (sz : Nat) (h0 a1 a2 : Nat) (cA cB : ClassId) (f g : Nat → Int32) (w h kw kh : Nat) : Met l yX0_keep wsX0_keep ({ frames := 1, cells := 0, slots := 0, locals := 64 }) (va_Pc [.ref h0] (fun U => U.heap.size = sz ∧ va_P (dC, dI) vwCm [(h0, .inr (0, [.ref a1, .ref a2, .int (nI w), .int (nI h), .int (nI kw), .int (nI kh)])), (a1, .inl (cA, 4096, .inl f)), (a2, .inl (cB, 4096, .inl g))] U.heap ∧ va_K (dC, dI) vwCm [(cA, .int), (cB, .int)] U ∧ va_D (fun _ => True) [(h0, .inr (0, [.ref a1, .ref a2, .int (nI w), .int (nI h), .int (nI kw), .int (nI kh)])), (a1, .inl (cA, 4096, .inl f)), (a2, .inl (cB, 4096, .inl g))])) (va_Qv (fun u : Nat → Int32 => cf_cp 4096 f u) (fun (u : Nat → Int32) (t : State) => va_P (dC, dI) vwCm [(h0, .inr (0, [.ref a1, .ref a2, .int (nI w), .int (nI h), .int (nI w), .int (nI h)])), (a1, .inl (cA, 4096, .inl f)), (a2, .inl (cB, 4096, .inl u))] t.heap ∧ va_K (dC, dI) vwCm [(cA, .int), (cB, .int)] t ∧ va_D (va_A [(h0, .inr (0, [.ref a1, .ref a2, .int (nI w), .int (nI h), .int (nI kw), .int (nI kh)])), (a1, .inl (cA, 4096, .inl f)), (a2, .inl (cB, 4096, .inl g))] sz) [(h0, .inr (0, [.ref a1, .ref a2, .int (nI w), .int (nI h), .int (nI w), .int (nI h)])), (a1, .inl (cA, 4096, .inl f)), (a2, .inl (cB, 4096, .inl u))]) (va_A [(h0, .inr (0, [.ref a1, .ref a2, .int (nI w), .int (nI h), .int (nI kw), .int (nI kh)])), (a1, .inl (cA, 4096, .inl f)), (a2, .inl (cB, 4096, .inl g))] sz)) 0 0 (va_A [(h0, .inr (0, [.ref a1, .ref a2, .int (nI w), .int (nI h), .int (nI kw), .int (nI kh)])), (a1, .inl (cA, 4096, .inl f)), (a2, .inl (cB, 4096, .inl g))] sz) := by
  refine Met.ofW (cc := cX0_keep) (maxL := 1) (ret := none) (by decide) rfl ?_
  intro p e s m args below meth c s₁ B hml hv
  obtain ⟨rfl, hsz, hP, hK, hD0⟩ := hv
  have hx := B.exec
  have hb := B.bytes
  have hr := B.returns
  have hts := atoms_spec (ws := wsX0_keep) B.pre
  have hown : s.vm.findClass RX0 = some m.cls := findClass_of_methodNamed B.named
  have hlocks := B.notSynchronized
  subst hsz
  have hD := hD0.self (sz := s.heap.size)
  generalize hAe : va_A [(h0, .inr (0, [.ref a1, .ref a2, .int (nI w), .int (nI h), .int (nI kw), .int (nI kh)])), (a1, .inl (cA, 4096, .inl f)), (a2, .inl (cB, 4096, .inl g))] s.heap.size = A at hD ⊢
  have hA : ∀ q : Nat, s.heap.size ≤ q → A q := fun q h => by rw [← hAe]; exact Or.inr h
  have hS : va_S A s.heap s.heap [] := va_S.rf
  have hP : va_P (dC, dI) vwCm [(h0, .inr (0, [.ref a1, .ref a2, .int (nI w), .int (nI h), .int (nI kw), .int (nI kh)])), (a1, .inl (cA, 4096, .inl f)), (a2, .inl (cB, 4096, .inl g))] s.heap := hP
  have hl := lv_entry ([.ref h0]) (n := 1) (Nat.le_of_ble_eq_true rfl)
  rw [lg_entry_eq]
  generalize (lg_sl ([.ref h0]) ++ List.replicate (1 - (lg_sl ([.ref h0])).length) Slot.unset).toArray = ls at hl ⊢
  have hl : lv_has ls 1 [(0, .ref h0)] := hl
  refine lv_aload_n hx hb dX0_keep_0 rfl (lv_at hl 0 rfl) ?_
  refine va_get (D := (dC, dI)) (ci := 0) (v := .ref a1) (C := RX0) (T := TX0) (N := 6) hx hb hts (by decide +kernel) hown hK hP 0 rfl rfl 0 (by decide) (hts (.fieldLink RX0 26 "CoefTurns" "cells" "[I") (by decide +kernel)) (fun _ h9 => h9) rfl dX0_keep_1 ?_
  refine lv_iconst (v := nI 0) hx hb dX0_keep_4 (by decide +kernel) ?_
  refine lv_aload_n hx hb dX0_keep_5 rfl (lv_at hl 0 rfl) ?_
  refine va_get (D := (dC, dI)) (ci := 0) (v := .ref a2) (C := RX0) (T := TX0) (N := 6) hx hb hts (by decide +kernel) hown hK hP 0 rfl rfl 1 (by decide) (hts (.fieldLink RX0 30 "CoefTurns" "keptCells" "[I") (by decide +kernel)) (fun _ h9 => h9) rfl dX0_keep_6 ?_
  refine lv_iconst (v := nI 0) hx hb dX0_keep_9 (by decide +kernel) ?_
  refine lv_sipush (v := nI 4096) hx hb dX0_keep_10 (by decide +kernel) ?_
  refine cf_copyi (D := (dC, dI)) hx hb (hml.trans hl.1.symm) hown (hts (.methodLink RX0 91 arraycopyName) (by decide +kernel)) (hts (.native arraycopyName) (by decide +kernel)) (hts (.static arraycopyName) (by decide +kernel)) (hts (.initialized "java/lang/System") (by decide +kernel)) hK hP hD hS 1 2 0 1 rfl rfl rfl rfl (by omega) (by omega) (by decide) (by decide) (Nat.le_of_ble_eq_true rfl) (Nat.le_of_ble_eq_true rfl) dX0_keep_13 (fun H locs hP hD hS => ?_)
  have hP : va_P (dC, dI) vwCm [(h0, .inr (0, [.ref a1, .ref a2, .int (nI w), .int (nI h), .int (nI kw), .int (nI kh)])), (a1, .inl (cA, 4096, .inl f)), (a2, .inl (cB, 4096, .inl (va_cpy f g 0 0 4096)))] H := hP
  have hD : va_D A [(h0, .inr (0, [.ref a1, .ref a2, .int (nI w), .int (nI h), .int (nI kw), .int (nI kh)])), (a1, .inl (cA, 4096, .inl f)), (a2, .inl (cB, 4096, .inl (va_cpy f g 0 0 4096)))] := hD
  refine lv_aload_n hx hb dX0_keep_16 rfl (lv_at hl 0 rfl) ?_
  refine lv_aload_n hx hb dX0_keep_17 rfl (lv_at hl 0 rfl) ?_
  refine va_get (D := (dC, dI)) (ci := 0) (v := .int (nI w)) (C := RX0) (T := TX0) (N := 6) hx hb hts (by decide +kernel) hown hK hP 0 rfl rfl 2 (by decide) (hts (.fieldLink RX0 13 "CoefTurns" "width" "I") (by decide +kernel)) (fun _ h9 => h9) rfl dX0_keep_18 ?_
  refine va_put (D := (dC, dI)) (ci := 0) (v := .int (nI w)) (ty := .int) (C := RX0) (T := TX0) (N := 6) hx hb hts (by decide +kernel) tyX0 tyX0_ok nmX0 hown hK hP hD hS 0 rfl rfl 4 (by decide) (hts (.fieldLink RX0 20 "CoefTurns" "keptWidth" "I") (by decide +kernel)) (fun _ h9 => h9) rfl (by decide +kernel) rfl rfl (Nat.le_of_ble_eq_true rfl) dX0_keep_21 (fun H locs hP hD hS => ?_)
  have hP : va_P (dC, dI) vwCm [(h0, .inr (0, [.ref a1, .ref a2, .int (nI w), .int (nI h), .int (nI w), .int (nI kh)])), (a1, .inl (cA, 4096, .inl f)), (a2, .inl (cB, 4096, .inl (va_cpy f g 0 0 4096)))] H := hP
  have hD : va_D A [(h0, .inr (0, [.ref a1, .ref a2, .int (nI w), .int (nI h), .int (nI w), .int (nI kh)])), (a1, .inl (cA, 4096, .inl f)), (a2, .inl (cB, 4096, .inl (va_cpy f g 0 0 4096)))] := hD
  refine lv_aload_n hx hb dX0_keep_24 rfl (lv_at hl 0 rfl) ?_
  refine lv_aload_n hx hb dX0_keep_25 rfl (lv_at hl 0 rfl) ?_
  refine va_get (D := (dC, dI)) (ci := 0) (v := .int (nI h)) (C := RX0) (T := TX0) (N := 6) hx hb hts (by decide +kernel) hown hK hP 0 rfl rfl 3 (by decide) (hts (.fieldLink RX0 17 "CoefTurns" "height" "I") (by decide +kernel)) (fun _ h9 => h9) rfl dX0_keep_26 ?_
  refine va_put (D := (dC, dI)) (ci := 0) (v := .int (nI h)) (ty := .int) (C := RX0) (T := TX0) (N := 6) hx hb hts (by decide +kernel) tyX0 tyX0_ok nmX0 hown hK hP hD hS 0 rfl rfl 5 (by decide) (hts (.fieldLink RX0 23 "CoefTurns" "keptHeight" "I") (by decide +kernel)) (fun _ h9 => h9) rfl (by decide +kernel) rfl rfl (Nat.le_of_ble_eq_true rfl) dX0_keep_29 (fun H locs hP hD hS => ?_)
  have hP : va_P (dC, dI) vwCm [(h0, .inr (0, [.ref a1, .ref a2, .int (nI w), .int (nI h), .int (nI w), .int (nI h)])), (a1, .inl (cA, 4096, .inl f)), (a2, .inl (cB, 4096, .inl (va_cpy f g 0 0 4096)))] H := hP
  have hD : va_D A [(h0, .inr (0, [.ref a1, .ref a2, .int (nI w), .int (nI h), .int (nI w), .int (nI h)])), (a1, .inl (cA, 4096, .inl f)), (a2, .inl (cB, 4096, .inl (va_cpy f g 0 0 4096)))] := hD
  have hP9 := hP.sub (ws' := [(h0, .inr (0, [.ref a1, .ref a2, .int (nI w), .int (nI h), .int (nI w), .int (nI h)])), (a1, .inl (cA, 4096, .inl f)), (a2, .inl (cB, 4096, .inl (va_cpy f g 0 0 4096)))]) [0, 1, 2] rfl
  have hD9 := hD.sub (ws' := [(h0, .inr (0, [.ref a1, .ref a2, .int (nI w), .int (nI h), .int (nI w), .int (nI h)])), (a1, .inl (cA, 4096, .inl f)), (a2, .inl (cB, 4096, .inl (va_cpy f g 0 0 4096)))]) [0, 1, 2] (by decide) rfl
  exact W.vret hx hb hr (fun t ht hW => ⟨⟨_, rfl, (fun k hk => pk_cpy_in (by omega) (by omega) |>.trans (by rw [Nat.sub_zero, Nat.zero_add])), by rw [ht]; exact hP9, va_K.moved hW.alike hK, hD9⟩, hS.F ht⟩) hS.2.2 dX0_keep_32
set_option maxHeartbeats 4000000 in
set_option maxRecDepth 100000 in
/-- X0_restore -/
theorem kX0_restore (l : Launch) (dC : Nat → ClassId) (dI : Nat → Nat → Nat) (sz : Nat) (h0 a1 a2 : Nat) (cA cB : ClassId) (f g : Nat → Int32) (w h kw kh : Nat) : Met l yX0_restore wsX0_restore ({ frames := 1, cells := 0, slots := 0, locals := 64 }) (va_Pc [.ref h0] (fun U => U.heap.size = sz ∧ va_P (dC, dI) vwCm [(h0, .inr (0, [.ref a1, .ref a2, .int (nI w), .int (nI h), .int (nI kw), .int (nI kh)])), (a1, .inl (cA, 4096, .inl f)), (a2, .inl (cB, 4096, .inl g))] U.heap ∧ va_K (dC, dI) vwCm [(cA, .int), (cB, .int)] U ∧ va_D (fun _ => True) [(h0, .inr (0, [.ref a1, .ref a2, .int (nI w), .int (nI h), .int (nI kw), .int (nI kh)])), (a1, .inl (cA, 4096, .inl f)), (a2, .inl (cB, 4096, .inl g))])) (va_Qv (fun u : Nat → Int32 => cf_cp 4096 g u) (fun (u : Nat → Int32) (t : State) => va_P (dC, dI) vwCm [(h0, .inr (0, [.ref a1, .ref a2, .int (nI kw), .int (nI kh), .int (nI kw), .int (nI kh)])), (a1, .inl (cA, 4096, .inl u)), (a2, .inl (cB, 4096, .inl g))] t.heap ∧ va_K (dC, dI) vwCm [(cA, .int), (cB, .int)] t ∧ va_D (va_A [(h0, .inr (0, [.ref a1, .ref a2, .int (nI w), .int (nI h), .int (nI kw), .int (nI kh)])), (a1, .inl (cA, 4096, .inl f)), (a2, .inl (cB, 4096, .inl g))] sz) [(h0, .inr (0, [.ref a1, .ref a2, .int (nI kw), .int (nI kh), .int (nI kw), .int (nI kh)])), (a1, .inl (cA, 4096, .inl u)), (a2, .inl (cB, 4096, .inl g))]) (va_A [(h0, .inr (0, [.ref a1, .ref a2, .int (nI w), .int (nI h), .int (nI kw), .int (nI kh)])), (a1, .inl (cA, 4096, .inl f)), (a2, .inl (cB, 4096, .inl g))] sz)) 0 0 (va_A [(h0, .inr (0, [.ref a1, .ref a2, .int (nI w), .int (nI h), .int (nI kw), .int (nI kh)])), (a1, .inl (cA, 4096, .inl f)), (a2, .inl (cB, 4096, .inl g))] sz) := by
  refine Met.ofW (cc := cX0_restore) (maxL := 1) (ret := none) (by decide) rfl ?_
  intro p e s m args below meth c s₁ B hml hv
  obtain ⟨rfl, hsz, hP, hK, hD0⟩ := hv
  have hx := B.exec
  have hb := B.bytes
  have hr := B.returns
  have hts := atoms_spec (ws := wsX0_restore) B.pre
  have hown : s.vm.findClass RX0 = some m.cls := findClass_of_methodNamed B.named
  have hlocks := B.notSynchronized
  subst hsz
  have hD := hD0.self (sz := s.heap.size)
  generalize hAe : va_A [(h0, .inr (0, [.ref a1, .ref a2, .int (nI w), .int (nI h), .int (nI kw), .int (nI kh)])), (a1, .inl (cA, 4096, .inl f)), (a2, .inl (cB, 4096, .inl g))] s.heap.size = A at hD ⊢
  have hA : ∀ q : Nat, s.heap.size ≤ q → A q := fun q h => by rw [← hAe]; exact Or.inr h
  have hS : va_S A s.heap s.heap [] := va_S.rf
  have hP : va_P (dC, dI) vwCm [(h0, .inr (0, [.ref a1, .ref a2, .int (nI w), .int (nI h), .int (nI kw), .int (nI kh)])), (a1, .inl (cA, 4096, .inl f)), (a2, .inl (cB, 4096, .inl g))] s.heap := hP
  have hl := lv_entry ([.ref h0]) (n := 1) (Nat.le_of_ble_eq_true rfl)
  rw [lg_entry_eq]
  generalize (lg_sl ([.ref h0]) ++ List.replicate (1 - (lg_sl ([.ref h0])).length) Slot.unset).toArray = ls at hl ⊢
  have hl : lv_has ls 1 [(0, .ref h0)] := hl
  refine lv_aload_n hx hb dX0_restore_0 rfl (lv_at hl 0 rfl) ?_
  refine va_get (D := (dC, dI)) (ci := 0) (v := .ref a2) (C := RX0) (T := TX0) (N := 6) hx hb hts (by decide +kernel) hown hK hP 0 rfl rfl 1 (by decide) (hts (.fieldLink RX0 30 "CoefTurns" "keptCells" "[I") (by decide +kernel)) (fun _ h9 => h9) rfl dX0_restore_1 ?_
  refine lv_iconst (v := nI 0) hx hb dX0_restore_4 (by decide +kernel) ?_
  refine lv_aload_n hx hb dX0_restore_5 rfl (lv_at hl 0 rfl) ?_
  refine va_get (D := (dC, dI)) (ci := 0) (v := .ref a1) (C := RX0) (T := TX0) (N := 6) hx hb hts (by decide +kernel) hown hK hP 0 rfl rfl 0 (by decide) (hts (.fieldLink RX0 26 "CoefTurns" "cells" "[I") (by decide +kernel)) (fun _ h9 => h9) rfl dX0_restore_6 ?_
  refine lv_iconst (v := nI 0) hx hb dX0_restore_9 (by decide +kernel) ?_
  refine lv_sipush (v := nI 4096) hx hb dX0_restore_10 (by decide +kernel) ?_
  refine cf_copyi (D := (dC, dI)) hx hb (hml.trans hl.1.symm) hown (hts (.methodLink RX0 91 arraycopyName) (by decide +kernel)) (hts (.native arraycopyName) (by decide +kernel)) (hts (.static arraycopyName) (by decide +kernel)) (hts (.initialized "java/lang/System") (by decide +kernel)) hK hP hD hS 2 1 1 0 rfl rfl rfl rfl (by omega) (by omega) (by decide) (by decide) (Nat.le_of_ble_eq_true rfl) (Nat.le_of_ble_eq_true rfl) dX0_restore_13 (fun H locs hP hD hS => ?_)
  have hP : va_P (dC, dI) vwCm [(h0, .inr (0, [.ref a1, .ref a2, .int (nI w), .int (nI h), .int (nI kw), .int (nI kh)])), (a1, .inl (cA, 4096, .inl (va_cpy g f 0 0 4096))), (a2, .inl (cB, 4096, .inl g))] H := hP
  have hD : va_D A [(h0, .inr (0, [.ref a1, .ref a2, .int (nI w), .int (nI h), .int (nI kw), .int (nI kh)])), (a1, .inl (cA, 4096, .inl (va_cpy g f 0 0 4096))), (a2, .inl (cB, 4096, .inl g))] := hD
  refine lv_aload_n hx hb dX0_restore_16 rfl (lv_at hl 0 rfl) ?_
  refine lv_aload_n hx hb dX0_restore_17 rfl (lv_at hl 0 rfl) ?_
  refine va_get (D := (dC, dI)) (ci := 0) (v := .int (nI kw)) (C := RX0) (T := TX0) (N := 6) hx hb hts (by decide +kernel) hown hK hP 0 rfl rfl 4 (by decide) (hts (.fieldLink RX0 20 "CoefTurns" "keptWidth" "I") (by decide +kernel)) (fun _ h9 => h9) rfl dX0_restore_18 ?_
  refine va_put (D := (dC, dI)) (ci := 0) (v := .int (nI kw)) (ty := .int) (C := RX0) (T := TX0) (N := 6) hx hb hts (by decide +kernel) tyX0 tyX0_ok nmX0 hown hK hP hD hS 0 rfl rfl 2 (by decide) (hts (.fieldLink RX0 13 "CoefTurns" "width" "I") (by decide +kernel)) (fun _ h9 => h9) rfl (by decide +kernel) rfl rfl (Nat.le_of_ble_eq_true rfl) dX0_restore_21 (fun H locs hP hD hS => ?_)
  have hP : va_P (dC, dI) vwCm [(h0, .inr (0, [.ref a1, .ref a2, .int (nI kw), .int (nI h), .int (nI kw), .int (nI kh)])), (a1, .inl (cA, 4096, .inl (va_cpy g f 0 0 4096))), (a2, .inl (cB, 4096, .inl g))] H := hP
  have hD : va_D A [(h0, .inr (0, [.ref a1, .ref a2, .int (nI kw), .int (nI h), .int (nI kw), .int (nI kh)])), (a1, .inl (cA, 4096, .inl (va_cpy g f 0 0 4096))), (a2, .inl (cB, 4096, .inl g))] := hD
  refine lv_aload_n hx hb dX0_restore_24 rfl (lv_at hl 0 rfl) ?_
  refine lv_aload_n hx hb dX0_restore_25 rfl (lv_at hl 0 rfl) ?_
  refine va_get (D := (dC, dI)) (ci := 0) (v := .int (nI kh)) (C := RX0) (T := TX0) (N := 6) hx hb hts (by decide +kernel) hown hK hP 0 rfl rfl 5 (by decide) (hts (.fieldLink RX0 23 "CoefTurns" "keptHeight" "I") (by decide +kernel)) (fun _ h9 => h9) rfl dX0_restore_26 ?_
  refine va_put (D := (dC, dI)) (ci := 0) (v := .int (nI kh)) (ty := .int) (C := RX0) (T := TX0) (N := 6) hx hb hts (by decide +kernel) tyX0 tyX0_ok nmX0 hown hK hP hD hS 0 rfl rfl 3 (by decide) (hts (.fieldLink RX0 17 "CoefTurns" "height" "I") (by decide +kernel)) (fun _ h9 => h9) rfl (by decide +kernel) rfl rfl (Nat.le_of_ble_eq_true rfl) dX0_restore_29 (fun H locs hP hD hS => ?_)
  have hP : va_P (dC, dI) vwCm [(h0, .inr (0, [.ref a1, .ref a2, .int (nI kw), .int (nI kh), .int (nI kw), .int (nI kh)])), (a1, .inl (cA, 4096, .inl (va_cpy g f 0 0 4096))), (a2, .inl (cB, 4096, .inl g))] H := hP
  have hD : va_D A [(h0, .inr (0, [.ref a1, .ref a2, .int (nI kw), .int (nI kh), .int (nI kw), .int (nI kh)])), (a1, .inl (cA, 4096, .inl (va_cpy g f 0 0 4096))), (a2, .inl (cB, 4096, .inl g))] := hD
  have hP9 := hP.sub (ws' := [(h0, .inr (0, [.ref a1, .ref a2, .int (nI kw), .int (nI kh), .int (nI kw), .int (nI kh)])), (a1, .inl (cA, 4096, .inl (va_cpy g f 0 0 4096))), (a2, .inl (cB, 4096, .inl g))]) [0, 1, 2] rfl
  have hD9 := hD.sub (ws' := [(h0, .inr (0, [.ref a1, .ref a2, .int (nI kw), .int (nI kh), .int (nI kw), .int (nI kh)])), (a1, .inl (cA, 4096, .inl (va_cpy g f 0 0 4096))), (a2, .inl (cB, 4096, .inl g))]) [0, 1, 2] (by decide) rfl
  exact W.vret hx hb hr (fun t ht hW => ⟨⟨_, rfl, (fun k hk => pk_cpy_in (by omega) (by omega) |>.trans (by rw [Nat.sub_zero, Nat.zero_add])), by rw [ht]; exact hP9, va_K.moved hW.alike hK, hD9⟩, hS.F ht⟩) hS.2.2 dX0_restore_32
set_option maxHeartbeats 4000000 in
set_option maxRecDepth 100000 in
/-- X0_differ -/
theorem kX0_differ (l : Launch) (dC : Nat → ClassId) (dI : Nat → Nat → Nat) (h0 a1 a2 : Nat) (cA cB : ClassId) (f g : Nat → Int32) (w h kw kh : Nat) (hw : w ≤ 8) (hh : h ≤ 8) (hkw : kw ≤ 8) (hkh : kh ≤ 8) : Met l yX0_differ wsX0_differ ({ frames := 1, cells := 0, slots := 0, locals := 21 }) (va_Pc [.ref h0] (fun U => va_P (dC, dI) vwCm [(h0, .inr (0, [.ref a1, .ref a2, .int (nI w), .int (nI h), .int (nI kw), .int (nI kh)])), (a1, .inl (cA, 4096, .inl f)), (a2, .inl (cB, 4096, .inl g))] U.heap ∧ va_K (dC, dI) vwCm [(cA, .int), (cB, .int)] U)) (vp_Si (fun r : Int32 => r = cf_dif w h kw kh (cf_V f) (cf_V g))) 0 0 (fun _ => False) := by
  refine Met.ofW (cc := cX0_differ) (maxL := 5) (ret := (some .int)) (by decide) rfl ?_
  intro p e s m args below meth c s₁ B hml hv
  obtain ⟨rfl, hP, hK⟩ := hv
  have hx := B.exec
  have hb := B.bytes
  have hr := B.returns
  have hts := atoms_spec (ws := wsX0_differ) B.pre
  have hown : s.vm.findClass RX0 = some m.cls := findClass_of_methodNamed B.named
  have hlocks := B.notSynchronized
  have hl := lv_entry ([.ref h0]) (n := 5) (Nat.le_of_ble_eq_true rfl)
  rw [lg_entry_eq]
  generalize (lg_sl ([.ref h0]) ++ List.replicate (5 - (lg_sl ([.ref h0])).length) Slot.unset).toArray = ls at hl ⊢
  have hl : lv_has ls 5 [(0, .ref h0)] := hl
  refine lv_aload_n hx hb dX0_differ_0 rfl (lv_at hl 0 rfl) ?_
  refine va_get (D := (dC, dI)) (ci := 0) (v := .int (nI w)) (C := RX0) (T := TX0) (N := 6) hx hb hts (by decide +kernel) hown hK hP 0 rfl rfl 2 (by decide) (hts (.fieldLink RX0 13 "CoefTurns" "width" "I") (by decide +kernel)) (fun _ h9 => h9) rfl dX0_differ_1 ?_
  refine lv_aload_n hx hb dX0_differ_4 rfl (lv_at hl 0 rfl) ?_
  refine va_get (D := (dC, dI)) (ci := 0) (v := .int (nI kw)) (C := RX0) (T := TX0) (N := 6) hx hb hts (by decide +kernel) hown hK hP 0 rfl rfl 4 (by decide) (hts (.fieldLink RX0 20 "CoefTurns" "keptWidth" "I") (by decide +kernel)) (fun _ h9 => h9) rfl dX0_differ_5 ?_
  refine lv_icmp_ne (tgt := 22) hx hb dX0_differ_8 (by decide) (fun c8 => ?_) (fun c8 => ?_)
  · skip
    have c8 := mt (nI_eq (a := w) (b := kw) (by omega) (by omega)).mpr c8
    refine lv_iconst (v := (-1)) hx hb dX0_differ_22 (by decide +kernel) ?_
    exact W.iret hx hb hr (fun t ht hW => ⟨_, rfl, (by unfold cf_dif; rw [if_neg (by omega)]), ht⟩) (fun q h => by cases h) dX0_differ_23
  · skip
    have c8 := (nI_eq (a := w) (b := kw) (by omega) (by omega)).mp c8
    refine lv_aload_n hx hb dX0_differ_11 rfl (lv_at hl 0 rfl) ?_
    refine va_get (D := (dC, dI)) (ci := 0) (v := .int (nI h)) (C := RX0) (T := TX0) (N := 6) hx hb hts (by decide +kernel) hown hK hP 0 rfl rfl 3 (by decide) (hts (.fieldLink RX0 17 "CoefTurns" "height" "I") (by decide +kernel)) (fun _ h9 => h9) rfl dX0_differ_12 ?_
    refine lv_aload_n hx hb dX0_differ_15 rfl (lv_at hl 0 rfl) ?_
    refine va_get (D := (dC, dI)) (ci := 0) (v := .int (nI kh)) (C := RX0) (T := TX0) (N := 6) hx hb hts (by decide +kernel) hown hK hP 0 rfl rfl 5 (by decide) (hts (.fieldLink RX0 23 "CoefTurns" "keptHeight" "I") (by decide +kernel)) (fun _ h9 => h9) rfl dX0_differ_16 ?_
    refine lv_icmp_eq (tgt := 24) hx hb dX0_differ_19 (by decide) (fun c19 => ?_) (fun c19 => ?_)
    · skip
      have c19 := (nI_eq (a := h) (b := kh) (by omega) (by omega)).mp c19
      refine lv_iconst (v := nI 0) hx hb dX0_differ_24 (by decide +kernel) ?_
      refine lv_istore_n (lv' := [(1, .int (nI 0)), (0, .ref h0)]) hx hb dX0_differ_25 rfl hl (by decide) rfl (fun ls hl => ?_)
      refine lv_iconst (v := nI 0) hx hb dX0_differ_26 (by decide +kernel) ?_
      refine lv_istore_n (lv' := [(2, .int (nI 0)), (1, .int (nI 0)), (0, .ref h0)]) hx hb dX0_differ_27 rfl hl (by decide) rfl (fun ls hl => ?_)
      have lp28 : ∀ (n28 : Nat) (y0 : Nat) (n0 : Int32), y0 ≤ h → h < y0 + n28 → n0 = cf_lin (fun (a : Int32) (k : Nat) => if f k = g k then a else a + 1) w y0 0 → ∀ (ls : Array Slot), lv_has ls 5 [(0, .ref h0), (1, .int n0), (2, .int (nI y0))] → W p l e (headSpec wsX0_differ ({ frames := 1, cells := 0, slots := 0, locals := 21 })).room s m ([.ref h0] : List Value).toArray below meth c s.heap [] 0 0 (MQ below (vp_Si (fun r : Int32 => r = cf_dif w h kw kh (cf_V f) (cf_V g))) ([.ref h0] : List Value).toArray s 0 0 (fun _ => False)) (F0 m 28 ls []) := by
        intro n28
        induction n28 with
        | zero => intro y0 n0 h1 h2; exact absurd h2 (by omega)
        | succ n28 ih28 =>
          intro y0 n0 hk28 hn28 hI ls hl
          refine lv_iload_n hx hb dX0_differ_28 rfl (lv_at hl 2 rfl) ?_
          refine lv_aload_n hx hb dX0_differ_29 rfl (lv_at hl 0 rfl) ?_
          refine va_get (D := (dC, dI)) (ci := 0) (v := .int (nI h)) (C := RX0) (T := TX0) (N := 6) hx hb hts (by decide +kernel) hown hK hP 0 rfl rfl 3 (by decide) (hts (.fieldLink RX0 17 "CoefTurns" "height" "I") (by decide +kernel)) (fun _ h9 => h9) rfl dX0_differ_30 ?_
          refine lv_icmp_ge (tgt := 90) hx hb dX0_differ_33 (by decide) (fun c33 => ?_) (fun c33 => ?_)
          · skip
            have c33 := (nI_leI (a := h) (b := y0) (by omega) (by omega)).mp c33
            refine lv_iload_n hx hb dX0_differ_90 rfl (lv_at hl 1 rfl) ?_
            exact W.iret hx hb hr (fun t ht hW => ⟨_, rfl, (by have e : y0 = h := (by omega); rw [hI, e, cf_lin_e]; unfold cf_dif; rw [if_pos ⟨by omega, by omega⟩]; rfl), ht⟩) (fun q h => by cases h) dX0_differ_91
          · skip
            have c33 := mt (nI_leI (a := h) (b := y0) (by omega) (by omega)).mpr c33
            refine lv_aload_n hx hb dX0_differ_36 rfl (lv_at hl 0 rfl) ?_
            refine va_get (D := (dC, dI)) (ci := 0) (v := .int (nI w)) (C := RX0) (T := TX0) (N := 6) hx hb hts (by decide +kernel) hown hK hP 0 rfl rfl 2 (by decide) (hts (.fieldLink RX0 13 "CoefTurns" "width" "I") (by decide +kernel)) (fun _ h9 => h9) rfl dX0_differ_37 ?_
            refine lv_iload_n hx hb dX0_differ_40 rfl (lv_at hl 2 rfl) ?_
            refine vp_callSi (W.runS (As := [.int (nI w), .int (nI y0)]) (rest := []) ⟨hx, hb, hml, hown, hts⟩ (kX0_blockStart l w y0) (va_cwS 2 hts gX0_differ_X0_blockStart rfl rfl rfl (by decide +kernel) ⟨Nat.le_of_ble_eq_true rfl, Nat.le_of_ble_eq_true rfl⟩) ⟨fun a U g mk q => q, fun U hU hW => ⟨rfl, trivial⟩⟩ rfl rfl hl.1 rfl (lv_room (Nat.le_of_ble_eq_true rfl)) dX0_differ_41 ⟨Nat.le_of_ble_eq_true rfl, Nat.le_of_ble_eq_true rfl⟩) (fun r41 w41 => ?_)
            subst w41
            refine lv_istore_n (lv' := [(3, .int (nI (64 * (8 * y0 + w)))), (0, .ref h0), (1, .int n0), (2, .int (nI y0))]) hx hb dX0_differ_44 rfl hl (by decide) rfl (fun ls hl => ?_)
            refine lv_iconst (v := nI 0) hx hb dX0_differ_45 (by decide +kernel) ?_
            refine lv_iload_n hx hb dX0_differ_46 rfl (lv_at hl 3 rfl) ?_
            refine vp_callSi (W.runS (As := [.int (nI 0), .int (nI y0)]) (rest := []) ⟨hx, hb, hml, hown, hts⟩ (kX0_blockStart l 0 y0) (va_cwS 2 hts gX0_differ_X0_blockStart rfl rfl rfl (by decide +kernel) ⟨Nat.le_of_ble_eq_true rfl, Nat.le_of_ble_eq_true rfl⟩) ⟨fun a U g mk q => q, fun U hU hW => ⟨rfl, trivial⟩⟩ rfl rfl hl.1 rfl (lv_room (Nat.le_of_ble_eq_true rfl)) dX0_differ_47 ⟨Nat.le_of_ble_eq_true rfl, Nat.le_of_ble_eq_true rfl⟩) (fun r47 w47 => ?_)
            subst w47
            refine lv_istore (lv' := [(4, .int (nI (64 * (8 * y0 + 0)))), (3, .int (nI (64 * (8 * y0 + w)))), (0, .ref h0), (1, .int n0), (2, .int (nI y0))]) hx hb dX0_differ_50 hl (by decide) rfl (fun ls hl => ?_)
            have lp52 : ∀ (n52 : Nat) (k : Nat) (n1 : Int32), k ≤ 64 * (8 * y0 + w) → 64 * (8 * y0 + w) < k + n52 → n1 = cf_row (fun (a : Int32) (k : Nat) => if f k = g k then a else a + 1) y0 (k - 512 * y0) (cf_lin (fun (a : Int32) (k : Nat) => if f k = g k then a else a + 1) w y0 0) → 512 * y0 ≤ k → ∀ (ls : Array Slot), lv_has ls 5 [(0, .ref h0), (1, .int n1), (2, .int (nI y0)), (3, .int (nI (64 * (8 * y0 + w)))), (4, .int (nI k))] → W p l e (headSpec wsX0_differ ({ frames := 1, cells := 0, slots := 0, locals := 21 })).room s m ([.ref h0] : List Value).toArray below meth c s.heap [] 0 0 (MQ below (vp_Si (fun r : Int32 => r = cf_dif w h kw kh (cf_V f) (cf_V g))) ([.ref h0] : List Value).toArray s 0 0 (fun _ => False)) (F0 m 52 ls []) := by
              intro n52
              induction n52 with
              | zero => intro k n1 h1 h2; exact absurd h2 (by omega)
              | succ n52 ih52 =>
                intro k n1 hk52 hn52 hI1 hk1 ls hl
                refine lv_iload hx hb dX0_differ_52 (lv_at hl 4 rfl) ?_
                refine lv_iload_n hx hb dX0_differ_54 rfl (lv_at hl 3 rfl) ?_
                refine lv_icmp_ge (tgt := 84) hx hb dX0_differ_55 (by decide) (fun c55 => ?_) (fun c55 => ?_)
                · skip
                  have c55 := (nI_leI (a := 64 * (8 * y0 + w)) (b := k) (by omega) (by omega)).mp c55
                  refine lv_iinc (v := nI (y0 + 1)) (lv' := [(2, .int (nI (y0 + 1))), (0, .ref h0), (1, .int n1), (3, .int (nI (64 * (8 * y0 + w)))), (4, .int (nI k))]) hx hb dX0_differ_84 hl (k := 2) rfl (by rw [← nI_add]; rfl) (by decide) rfl (fun ls hl => ?_)
                  refine lv_goto (tgt := 28) hx hb dX0_differ_87 (by decide) ?_
                  exact ih28 (y0 + 1) n1 (by omega) (by omega) (by rw [hI1]; exact cf_row_e (by omega)) ls (lv_sub hl [1, 2, 0] rfl)
                · skip
                  have c55 := mt (nI_leI (a := 64 * (8 * y0 + w)) (b := k) (by omega) (by omega)).mpr c55
                  refine lv_aload_n hx hb dX0_differ_58 rfl (lv_at hl 0 rfl) ?_
                  refine va_get (D := (dC, dI)) (ci := 0) (v := .ref a1) (C := RX0) (T := TX0) (N := 6) hx hb hts (by decide +kernel) hown hK hP 0 rfl rfl 0 (by decide) (hts (.fieldLink RX0 26 "CoefTurns" "cells" "[I") (by decide +kernel)) (fun _ h9 => h9) rfl dX0_differ_59 ?_
                  refine lv_iload hx hb dX0_differ_62 (lv_at hl 4 rfl) ?_
                  refine cf_iald (D := (dC, dI)) hx hb hK hP 1 0 rfl rfl (k := k) (by omega) (by decide) dX0_differ_64 ?_
                  refine lv_aload_n hx hb dX0_differ_65 rfl (lv_at hl 0 rfl) ?_
                  refine va_get (D := (dC, dI)) (ci := 0) (v := .ref a2) (C := RX0) (T := TX0) (N := 6) hx hb hts (by decide +kernel) hown hK hP 0 rfl rfl 1 (by decide) (hts (.fieldLink RX0 30 "CoefTurns" "keptCells" "[I") (by decide +kernel)) (fun _ h9 => h9) rfl dX0_differ_66 ?_
                  refine lv_iload hx hb dX0_differ_69 (lv_at hl 4 rfl) ?_
                  refine cf_iald (D := (dC, dI)) hx hb hK hP 2 1 rfl rfl (k := k) (by omega) (by decide) dX0_differ_71 ?_
                  refine lv_icmp_eq (tgt := 78) hx hb dX0_differ_72 (by decide) (fun c72 => ?_) (fun c72 => ?_)
                  · skip
                    refine lv_iinc (v := nI (k + 1)) (lv' := [(4, .int (nI (k + 1))), (0, .ref h0), (1, .int n1), (2, .int (nI y0)), (3, .int (nI (64 * (8 * y0 + w))))]) hx hb dX0_differ_78 hl (k := 4) rfl (by rw [← nI_add]; rfl) (by decide) rfl (fun ls hl => ?_)
                    refine lv_goto (tgt := 52) hx hb dX0_differ_81 (by decide) ?_
                    exact ih52 (k + 1) n1 (by omega) (by omega) (by rw [cf_row_s hk1, ← hI1]; first | rw [if_pos c72] | (rw [if_neg c72])) (by omega) ls (lv_sub hl [1, 2, 3, 4, 0] rfl)
                  · skip
                    refine lv_iinc (v := n1 + 1) (lv' := [(1, .int (n1 + 1)), (0, .ref h0), (2, .int (nI y0)), (3, .int (nI (64 * (8 * y0 + w)))), (4, .int (nI k))]) hx hb dX0_differ_75 hl (k := 1) rfl rfl (by decide) rfl (fun ls hl => ?_)
                    refine lv_iinc (v := nI (k + 1)) (lv' := [(4, .int (nI (k + 1))), (1, .int (n1 + 1)), (0, .ref h0), (2, .int (nI y0)), (3, .int (nI (64 * (8 * y0 + w))))]) hx hb dX0_differ_78 hl (k := 4) rfl (by rw [← nI_add]; rfl) (by decide) rfl (fun ls hl => ?_)
                    refine lv_goto (tgt := 52) hx hb dX0_differ_81 (by decide) ?_
                    exact ih52 (k + 1) (n1 + 1) (by omega) (by omega) (by rw [cf_row_s hk1, ← hI1]; first | rw [if_pos c72] | (rw [if_neg c72])) (by omega) ls (lv_sub hl [2, 1, 3, 4, 0] rfl)
            exact lp52 (64 * (8 * y0 + w) + 1) (64 * (8 * y0 + 0)) n0 (by omega) (by omega) (by rw [cf_row_0 (by omega)]; exact hI) (by omega) ls (lv_sub hl [2, 3, 4, 1, 0] rfl)
      exact lp28 (h + 1) 0 (nI 0) (by omega) (by omega) rfl ls (lv_sub hl [2, 1, 0] rfl)
    · skip
      have c19 := mt (nI_eq (a := h) (b := kh) (by omega) (by omega)).mpr c19
      refine lv_iconst (v := (-1)) hx hb dX0_differ_22 (by decide +kernel) ?_
      exact W.iret hx hb hr (fun t ht hW => ⟨_, rfl, (by unfold cf_dif; rw [if_neg (by omega)]), ht⟩) (fun q h => by cases h) dX0_differ_23
set_option maxHeartbeats 4000000 in
set_option maxRecDepth 100000 in
/-- X0_countNotZero -/
theorem kX0_countNotZero (l : Launch) (dC : Nat → ClassId) (dI : Nat → Nat → Nat) (h0 a1 a2 : Nat) (cA cB : ClassId) (f g : Nat → Int32) (w h kw kh : Nat) (hw : w ≤ 8) (hh : h ≤ 8) : Met l yX0_countNotZero wsX0_countNotZero ({ frames := 1, cells := 0, slots := 0, locals := 21 }) (va_Pc [.ref h0] (fun U => va_P (dC, dI) vwCm [(h0, .inr (0, [.ref a1, .ref a2, .int (nI w), .int (nI h), .int (nI kw), .int (nI kh)])), (a1, .inl (cA, 4096, .inl f)), (a2, .inl (cB, 4096, .inl g))] U.heap ∧ va_K (dC, dI) vwCm [(cA, .int), (cB, .int)] U)) (vp_Si (fun r : Int32 => r = cf_nz w h (cf_V f))) 0 0 (fun _ => False) := by
  refine Met.ofW (cc := cX0_countNotZero) (maxL := 5) (ret := (some .int)) (by decide) rfl ?_
  intro p e s m args below meth c s₁ B hml hv
  obtain ⟨rfl, hP, hK⟩ := hv
  have hx := B.exec
  have hb := B.bytes
  have hr := B.returns
  have hts := atoms_spec (ws := wsX0_countNotZero) B.pre
  have hown : s.vm.findClass RX0 = some m.cls := findClass_of_methodNamed B.named
  have hlocks := B.notSynchronized
  have hl := lv_entry ([.ref h0]) (n := 5) (Nat.le_of_ble_eq_true rfl)
  rw [lg_entry_eq]
  generalize (lg_sl ([.ref h0]) ++ List.replicate (5 - (lg_sl ([.ref h0])).length) Slot.unset).toArray = ls at hl ⊢
  have hl : lv_has ls 5 [(0, .ref h0)] := hl
  refine lv_iconst (v := nI 0) hx hb dX0_countNotZero_0 (by decide +kernel) ?_
  refine lv_istore_n (lv' := [(1, .int (nI 0)), (0, .ref h0)]) hx hb dX0_countNotZero_1 rfl hl (by decide) rfl (fun ls hl => ?_)
  refine lv_iconst (v := nI 0) hx hb dX0_countNotZero_2 (by decide +kernel) ?_
  refine lv_istore_n (lv' := [(2, .int (nI 0)), (1, .int (nI 0)), (0, .ref h0)]) hx hb dX0_countNotZero_3 rfl hl (by decide) rfl (fun ls hl => ?_)
  have lp4 : ∀ (n4 : Nat) (y0 : Nat) (n0 : Int32), y0 ≤ h → h < y0 + n4 → n0 = cf_lin (fun (a : Int32) (k : Nat) => if f k = 0 then a else a + 1) w y0 0 → ∀ (ls : Array Slot), lv_has ls 5 [(0, .ref h0), (1, .int n0), (2, .int (nI y0))] → W p l e (headSpec wsX0_countNotZero ({ frames := 1, cells := 0, slots := 0, locals := 21 })).room s m ([.ref h0] : List Value).toArray below meth c s.heap [] 0 0 (MQ below (vp_Si (fun r : Int32 => r = cf_nz w h (cf_V f))) ([.ref h0] : List Value).toArray s 0 0 (fun _ => False)) (F0 m 4 ls []) := by
    intro n4
    induction n4 with
    | zero => intro y0 n0 h1 h2; exact absurd h2 (by omega)
    | succ n4 ih4 =>
      intro y0 n0 hk4 hn4 hI ls hl
      refine lv_iload_n hx hb dX0_countNotZero_4 rfl (lv_at hl 2 rfl) ?_
      refine lv_aload_n hx hb dX0_countNotZero_5 rfl (lv_at hl 0 rfl) ?_
      refine va_get (D := (dC, dI)) (ci := 0) (v := .int (nI h)) (C := RX0) (T := TX0) (N := 6) hx hb hts (by decide +kernel) hown hK hP 0 rfl rfl 3 (by decide) (hts (.fieldLink RX0 17 "CoefTurns" "height" "I") (by decide +kernel)) (fun _ h9 => h9) rfl dX0_countNotZero_6 ?_
      refine lv_icmp_ge (tgt := 59) hx hb dX0_countNotZero_9 (by decide) (fun c9 => ?_) (fun c9 => ?_)
      · skip
        have c9 := (nI_leI (a := h) (b := y0) (by omega) (by omega)).mp c9
        refine lv_iload_n hx hb dX0_countNotZero_59 rfl (lv_at hl 1 rfl) ?_
        exact W.iret hx hb hr (fun t ht hW => ⟨_, rfl, (by have e : y0 = h := (by omega); rw [hI, e, cf_lin_e]; rfl), ht⟩) (fun q h => by cases h) dX0_countNotZero_60
      · skip
        have c9 := mt (nI_leI (a := h) (b := y0) (by omega) (by omega)).mpr c9
        refine lv_aload_n hx hb dX0_countNotZero_12 rfl (lv_at hl 0 rfl) ?_
        refine va_get (D := (dC, dI)) (ci := 0) (v := .int (nI w)) (C := RX0) (T := TX0) (N := 6) hx hb hts (by decide +kernel) hown hK hP 0 rfl rfl 2 (by decide) (hts (.fieldLink RX0 13 "CoefTurns" "width" "I") (by decide +kernel)) (fun _ h9 => h9) rfl dX0_countNotZero_13 ?_
        refine lv_iload_n hx hb dX0_countNotZero_16 rfl (lv_at hl 2 rfl) ?_
        refine vp_callSi (W.runS (As := [.int (nI w), .int (nI y0)]) (rest := []) ⟨hx, hb, hml, hown, hts⟩ (kX0_blockStart l w y0) (va_cwS 2 hts gX0_countNotZero_X0_blockStart rfl rfl rfl (by decide +kernel) ⟨Nat.le_of_ble_eq_true rfl, Nat.le_of_ble_eq_true rfl⟩) ⟨fun a U g mk q => q, fun U hU hW => ⟨rfl, trivial⟩⟩ rfl rfl hl.1 rfl (lv_room (Nat.le_of_ble_eq_true rfl)) dX0_countNotZero_17 ⟨Nat.le_of_ble_eq_true rfl, Nat.le_of_ble_eq_true rfl⟩) (fun r17 w17 => ?_)
        subst w17
        refine lv_istore_n (lv' := [(3, .int (nI (64 * (8 * y0 + w)))), (0, .ref h0), (1, .int n0), (2, .int (nI y0))]) hx hb dX0_countNotZero_20 rfl hl (by decide) rfl (fun ls hl => ?_)
        refine lv_iconst (v := nI 0) hx hb dX0_countNotZero_21 (by decide +kernel) ?_
        refine lv_iload_n hx hb dX0_countNotZero_22 rfl (lv_at hl 3 rfl) ?_
        refine vp_callSi (W.runS (As := [.int (nI 0), .int (nI y0)]) (rest := []) ⟨hx, hb, hml, hown, hts⟩ (kX0_blockStart l 0 y0) (va_cwS 2 hts gX0_countNotZero_X0_blockStart rfl rfl rfl (by decide +kernel) ⟨Nat.le_of_ble_eq_true rfl, Nat.le_of_ble_eq_true rfl⟩) ⟨fun a U g mk q => q, fun U hU hW => ⟨rfl, trivial⟩⟩ rfl rfl hl.1 rfl (lv_room (Nat.le_of_ble_eq_true rfl)) dX0_countNotZero_23 ⟨Nat.le_of_ble_eq_true rfl, Nat.le_of_ble_eq_true rfl⟩) (fun r23 w23 => ?_)
        subst w23
        refine lv_istore (lv' := [(4, .int (nI (64 * (8 * y0 + 0)))), (3, .int (nI (64 * (8 * y0 + w)))), (0, .ref h0), (1, .int n0), (2, .int (nI y0))]) hx hb dX0_countNotZero_26 hl (by decide) rfl (fun ls hl => ?_)
        have lp28 : ∀ (n28 : Nat) (k : Nat) (n1 : Int32), k ≤ 64 * (8 * y0 + w) → 64 * (8 * y0 + w) < k + n28 → n1 = cf_row (fun (a : Int32) (k : Nat) => if f k = 0 then a else a + 1) y0 (k - 512 * y0) (cf_lin (fun (a : Int32) (k : Nat) => if f k = 0 then a else a + 1) w y0 0) → 512 * y0 ≤ k → ∀ (ls : Array Slot), lv_has ls 5 [(0, .ref h0), (1, .int n1), (2, .int (nI y0)), (3, .int (nI (64 * (8 * y0 + w)))), (4, .int (nI k))] → W p l e (headSpec wsX0_countNotZero ({ frames := 1, cells := 0, slots := 0, locals := 21 })).room s m ([.ref h0] : List Value).toArray below meth c s.heap [] 0 0 (MQ below (vp_Si (fun r : Int32 => r = cf_nz w h (cf_V f))) ([.ref h0] : List Value).toArray s 0 0 (fun _ => False)) (F0 m 28 ls []) := by
          intro n28
          induction n28 with
          | zero => intro k n1 h1 h2; exact absurd h2 (by omega)
          | succ n28 ih28 =>
            intro k n1 hk28 hn28 hI1 hk1 ls hl
            refine lv_iload hx hb dX0_countNotZero_28 (lv_at hl 4 rfl) ?_
            refine lv_iload_n hx hb dX0_countNotZero_30 rfl (lv_at hl 3 rfl) ?_
            refine lv_icmp_ge (tgt := 53) hx hb dX0_countNotZero_31 (by decide) (fun c31 => ?_) (fun c31 => ?_)
            · skip
              have c31 := (nI_leI (a := 64 * (8 * y0 + w)) (b := k) (by omega) (by omega)).mp c31
              refine lv_iinc (v := nI (y0 + 1)) (lv' := [(2, .int (nI (y0 + 1))), (0, .ref h0), (1, .int n1), (3, .int (nI (64 * (8 * y0 + w)))), (4, .int (nI k))]) hx hb dX0_countNotZero_53 hl (k := 2) rfl (by rw [← nI_add]; rfl) (by decide) rfl (fun ls hl => ?_)
              refine lv_goto (tgt := 4) hx hb dX0_countNotZero_56 (by decide) ?_
              exact ih4 (y0 + 1) n1 (by omega) (by omega) (by rw [hI1]; exact cf_row_e (by omega)) ls (lv_sub hl [1, 2, 0] rfl)
            · skip
              have c31 := mt (nI_leI (a := 64 * (8 * y0 + w)) (b := k) (by omega) (by omega)).mpr c31
              refine lv_aload_n hx hb dX0_countNotZero_34 rfl (lv_at hl 0 rfl) ?_
              refine va_get (D := (dC, dI)) (ci := 0) (v := .ref a1) (C := RX0) (T := TX0) (N := 6) hx hb hts (by decide +kernel) hown hK hP 0 rfl rfl 0 (by decide) (hts (.fieldLink RX0 26 "CoefTurns" "cells" "[I") (by decide +kernel)) (fun _ h9 => h9) rfl dX0_countNotZero_35 ?_
              refine lv_iload hx hb dX0_countNotZero_38 (lv_at hl 4 rfl) ?_
              refine cf_iald (D := (dC, dI)) hx hb hK hP 1 0 rfl rfl (k := k) (by omega) (by decide) dX0_countNotZero_40 ?_
              refine lv_if_eq (tgt := 47) hx hb dX0_countNotZero_41 (by decide) (fun c41 => ?_) (fun c41 => ?_)
              · skip
                refine lv_iinc (v := nI (k + 1)) (lv' := [(4, .int (nI (k + 1))), (0, .ref h0), (1, .int n1), (2, .int (nI y0)), (3, .int (nI (64 * (8 * y0 + w))))]) hx hb dX0_countNotZero_47 hl (k := 4) rfl (by rw [← nI_add]; rfl) (by decide) rfl (fun ls hl => ?_)
                refine lv_goto (tgt := 28) hx hb dX0_countNotZero_50 (by decide) ?_
                exact ih28 (k + 1) n1 (by omega) (by omega) (by rw [cf_row_s hk1, ← hI1]; first | rw [if_pos c41] | (rw [if_neg c41])) (by omega) ls (lv_sub hl [1, 2, 3, 4, 0] rfl)
              · skip
                refine lv_iinc (v := n1 + 1) (lv' := [(1, .int (n1 + 1)), (0, .ref h0), (2, .int (nI y0)), (3, .int (nI (64 * (8 * y0 + w)))), (4, .int (nI k))]) hx hb dX0_countNotZero_44 hl (k := 1) rfl rfl (by decide) rfl (fun ls hl => ?_)
                refine lv_iinc (v := nI (k + 1)) (lv' := [(4, .int (nI (k + 1))), (1, .int (n1 + 1)), (0, .ref h0), (2, .int (nI y0)), (3, .int (nI (64 * (8 * y0 + w))))]) hx hb dX0_countNotZero_47 hl (k := 4) rfl (by rw [← nI_add]; rfl) (by decide) rfl (fun ls hl => ?_)
                refine lv_goto (tgt := 28) hx hb dX0_countNotZero_50 (by decide) ?_
                exact ih28 (k + 1) (n1 + 1) (by omega) (by omega) (by rw [cf_row_s hk1, ← hI1]; first | rw [if_pos c41] | (rw [if_neg c41])) (by omega) ls (lv_sub hl [2, 1, 3, 4, 0] rfl)
        exact lp28 (64 * (8 * y0 + w) + 1) (64 * (8 * y0 + 0)) n0 (by omega) (by omega) (by rw [cf_row_0 (by omega)]; exact hI) (by omega) ls (lv_sub hl [2, 3, 4, 1, 0] rfl)
  exact lp4 (h + 1) 0 (nI 0) (by omega) (by omega) rfl ls (lv_sub hl [2, 1, 0] rfl)
set_option maxHeartbeats 4000000 in
set_option maxRecDepth 100000 in
/-- X0_greatestSize -/
theorem kX0_greatestSize (l : Launch) (dC : Nat → ClassId) (dI : Nat → Nat → Nat) (h0 a1 a2 : Nat) (cA cB : ClassId) (f g : Nat → Int32) (w h kw kh : Nat) (hw : w ≤ 8) (hh : h ≤ 8) : Met l yX0_greatestSize wsX0_greatestSize ({ frames := 1, cells := 0, slots := 0, locals := 21 }) (va_Pc [.ref h0] (fun U => va_P (dC, dI) vwCm [(h0, .inr (0, [.ref a1, .ref a2, .int (nI w), .int (nI h), .int (nI kw), .int (nI kh)])), (a1, .inl (cA, 4096, .inl f)), (a2, .inl (cB, 4096, .inl g))] U.heap ∧ va_K (dC, dI) vwCm [(cA, .int), (cB, .int)] U)) (vp_Si (fun r : Int32 => r = cf_mo w h (cf_V f))) 0 0 (fun _ => False) := by
  refine Met.ofW (cc := cX0_greatestSize) (maxL := 5) (ret := (some .int)) (by decide) rfl ?_
  intro p e s m args below meth c s₁ B hml hv
  obtain ⟨rfl, hP, hK⟩ := hv
  have hx := B.exec
  have hb := B.bytes
  have hr := B.returns
  have hts := atoms_spec (ws := wsX0_greatestSize) B.pre
  have hown : s.vm.findClass RX0 = some m.cls := findClass_of_methodNamed B.named
  have hlocks := B.notSynchronized
  have hl := lv_entry ([.ref h0]) (n := 5) (Nat.le_of_ble_eq_true rfl)
  rw [lg_entry_eq]
  generalize (lg_sl ([.ref h0]) ++ List.replicate (5 - (lg_sl ([.ref h0])).length) Slot.unset).toArray = ls at hl ⊢
  have hl : lv_has ls 5 [(0, .ref h0)] := hl
  refine lv_iconst (v := nI 0) hx hb dX0_greatestSize_0 (by decide +kernel) ?_
  refine lv_istore_n (lv' := [(1, .int (nI 0)), (0, .ref h0)]) hx hb dX0_greatestSize_1 rfl hl (by decide) rfl (fun ls hl => ?_)
  refine lv_iconst (v := nI 0) hx hb dX0_greatestSize_2 (by decide +kernel) ?_
  refine lv_istore_n (lv' := [(2, .int (nI 0)), (1, .int (nI 0)), (0, .ref h0)]) hx hb dX0_greatestSize_3 rfl hl (by decide) rfl (fun ls hl => ?_)
  have lp4 : ∀ (n4 : Nat) (y0 : Nat) (n0 : Int32), y0 ≤ h → h < y0 + n4 → n0 = cf_lin (fun (a : Int32) (k : Nat) => cf_ms a (f k)) w y0 0 → 0 ≤ n0 → ∀ (ls : Array Slot), lv_has ls 5 [(0, .ref h0), (1, .int n0), (2, .int (nI y0))] → W p l e (headSpec wsX0_greatestSize ({ frames := 1, cells := 0, slots := 0, locals := 21 })).room s m ([.ref h0] : List Value).toArray below meth c s.heap [] 0 0 (MQ below (vp_Si (fun r : Int32 => r = cf_mo w h (cf_V f))) ([.ref h0] : List Value).toArray s 0 0 (fun _ => False)) (F0 m 4 ls []) := by
    intro n4
    induction n4 with
    | zero => intro y0 n0 h1 h2; exact absurd h2 (by omega)
    | succ n4 ih4 =>
      intro y0 n0 hk4 hn4 hI hp0 ls hl
      refine lv_iload_n hx hb dX0_greatestSize_4 rfl (lv_at hl 2 rfl) ?_
      refine lv_aload_n hx hb dX0_greatestSize_5 rfl (lv_at hl 0 rfl) ?_
      refine va_get (D := (dC, dI)) (ci := 0) (v := .int (nI h)) (C := RX0) (T := TX0) (N := 6) hx hb hts (by decide +kernel) hown hK hP 0 rfl rfl 3 (by decide) (hts (.fieldLink RX0 17 "CoefTurns" "height" "I") (by decide +kernel)) (fun _ h9 => h9) rfl dX0_greatestSize_6 ?_
      refine lv_icmp_ge (tgt := 61) hx hb dX0_greatestSize_9 (by decide) (fun c9 => ?_) (fun c9 => ?_)
      · skip
        have c9 := (nI_leI (a := h) (b := y0) (by omega) (by omega)).mp c9
        refine lv_iload_n hx hb dX0_greatestSize_61 rfl (lv_at hl 1 rfl) ?_
        exact W.iret hx hb hr (fun t ht hW => ⟨_, rfl, (by have e : y0 = h := (by omega); rw [hI, e, cf_lin_e]; rfl), ht⟩) (fun q h => by cases h) dX0_greatestSize_62
      · skip
        have c9 := mt (nI_leI (a := h) (b := y0) (by omega) (by omega)).mpr c9
        refine lv_aload_n hx hb dX0_greatestSize_12 rfl (lv_at hl 0 rfl) ?_
        refine va_get (D := (dC, dI)) (ci := 0) (v := .int (nI w)) (C := RX0) (T := TX0) (N := 6) hx hb hts (by decide +kernel) hown hK hP 0 rfl rfl 2 (by decide) (hts (.fieldLink RX0 13 "CoefTurns" "width" "I") (by decide +kernel)) (fun _ h9 => h9) rfl dX0_greatestSize_13 ?_
        refine lv_iload_n hx hb dX0_greatestSize_16 rfl (lv_at hl 2 rfl) ?_
        refine vp_callSi (W.runS (As := [.int (nI w), .int (nI y0)]) (rest := []) ⟨hx, hb, hml, hown, hts⟩ (kX0_blockStart l w y0) (va_cwS 2 hts gX0_greatestSize_X0_blockStart rfl rfl rfl (by decide +kernel) ⟨Nat.le_of_ble_eq_true rfl, Nat.le_of_ble_eq_true rfl⟩) ⟨fun a U g mk q => q, fun U hU hW => ⟨rfl, trivial⟩⟩ rfl rfl hl.1 rfl (lv_room (Nat.le_of_ble_eq_true rfl)) dX0_greatestSize_17 ⟨Nat.le_of_ble_eq_true rfl, Nat.le_of_ble_eq_true rfl⟩) (fun r17 w17 => ?_)
        subst w17
        refine lv_istore_n (lv' := [(3, .int (nI (64 * (8 * y0 + w)))), (0, .ref h0), (1, .int n0), (2, .int (nI y0))]) hx hb dX0_greatestSize_20 rfl hl (by decide) rfl (fun ls hl => ?_)
        refine lv_iconst (v := nI 0) hx hb dX0_greatestSize_21 (by decide +kernel) ?_
        refine lv_iload_n hx hb dX0_greatestSize_22 rfl (lv_at hl 3 rfl) ?_
        refine vp_callSi (W.runS (As := [.int (nI 0), .int (nI y0)]) (rest := []) ⟨hx, hb, hml, hown, hts⟩ (kX0_blockStart l 0 y0) (va_cwS 2 hts gX0_greatestSize_X0_blockStart rfl rfl rfl (by decide +kernel) ⟨Nat.le_of_ble_eq_true rfl, Nat.le_of_ble_eq_true rfl⟩) ⟨fun a U g mk q => q, fun U hU hW => ⟨rfl, trivial⟩⟩ rfl rfl hl.1 rfl (lv_room (Nat.le_of_ble_eq_true rfl)) dX0_greatestSize_23 ⟨Nat.le_of_ble_eq_true rfl, Nat.le_of_ble_eq_true rfl⟩) (fun r23 w23 => ?_)
        subst w23
        refine lv_istore (lv' := [(4, .int (nI (64 * (8 * y0 + 0)))), (3, .int (nI (64 * (8 * y0 + w)))), (0, .ref h0), (1, .int n0), (2, .int (nI y0))]) hx hb dX0_greatestSize_26 hl (by decide) rfl (fun ls hl => ?_)
        have lp28 : ∀ (n28 : Nat) (k : Nat) (n1 : Int32), k ≤ 64 * (8 * y0 + w) → 64 * (8 * y0 + w) < k + n28 → n1 = cf_row (fun (a : Int32) (k : Nat) => cf_ms a (f k)) y0 (k - 512 * y0) (cf_lin (fun (a : Int32) (k : Nat) => cf_ms a (f k)) w y0 0) → 512 * y0 ≤ k → 0 ≤ n1 → ∀ (ls : Array Slot), lv_has ls 5 [(0, .ref h0), (1, .int n1), (2, .int (nI y0)), (3, .int (nI (64 * (8 * y0 + w)))), (4, .int (nI k))] → W p l e (headSpec wsX0_greatestSize ({ frames := 1, cells := 0, slots := 0, locals := 21 })).room s m ([.ref h0] : List Value).toArray below meth c s.heap [] 0 0 (MQ below (vp_Si (fun r : Int32 => r = cf_mo w h (cf_V f))) ([.ref h0] : List Value).toArray s 0 0 (fun _ => False)) (F0 m 28 ls []) := by
          intro n28
          induction n28 with
          | zero => intro k n1 h1 h2; exact absurd h2 (by omega)
          | succ n28 ih28 =>
            intro k n1 hk28 hn28 hI1 hk1 hp1 ls hl
            refine lv_iload hx hb dX0_greatestSize_28 (lv_at hl 4 rfl) ?_
            refine lv_iload_n hx hb dX0_greatestSize_30 rfl (lv_at hl 3 rfl) ?_
            refine lv_icmp_ge (tgt := 55) hx hb dX0_greatestSize_31 (by decide) (fun c31 => ?_) (fun c31 => ?_)
            · skip
              have c31 := (nI_leI (a := 64 * (8 * y0 + w)) (b := k) (by omega) (by omega)).mp c31
              refine lv_iinc (v := nI (y0 + 1)) (lv' := [(2, .int (nI (y0 + 1))), (0, .ref h0), (1, .int n1), (3, .int (nI (64 * (8 * y0 + w)))), (4, .int (nI k))]) hx hb dX0_greatestSize_55 hl (k := 2) rfl (by rw [← nI_add]; rfl) (by decide) rfl (fun ls hl => ?_)
              refine lv_goto (tgt := 4) hx hb dX0_greatestSize_58 (by decide) ?_
              exact ih4 (y0 + 1) n1 (by omega) (by omega) (by rw [hI1]; exact cf_row_e (by omega)) hp1 ls (lv_sub hl [1, 2, 0] rfl)
            · skip
              have c31 := mt (nI_leI (a := 64 * (8 * y0 + w)) (b := k) (by omega) (by omega)).mpr c31
              refine lv_iload_n hx hb dX0_greatestSize_34 rfl (lv_at hl 1 rfl) ?_
              refine lv_aload_n hx hb dX0_greatestSize_35 rfl (lv_at hl 0 rfl) ?_
              refine va_get (D := (dC, dI)) (ci := 0) (v := .ref a1) (C := RX0) (T := TX0) (N := 6) hx hb hts (by decide +kernel) hown hK hP 0 rfl rfl 0 (by decide) (hts (.fieldLink RX0 26 "CoefTurns" "cells" "[I") (by decide +kernel)) (fun _ h9 => h9) rfl dX0_greatestSize_36 ?_
              refine lv_iload hx hb dX0_greatestSize_39 (lv_at hl 4 rfl) ?_
              refine cf_iald (D := (dC, dI)) hx hb hK hP 1 0 rfl rfl (k := k) (by omega) (by decide) dX0_greatestSize_41 ?_
              refine va_mabs hx hb (hml.trans hl.1.symm) hown (hts (.methodLink RX0 115 Lib.Math.abs.name) (by decide +kernel)) (hts (.static Lib.Math.abs.name) (by decide +kernel)) (hts (.initialized "java/lang/Math") (by decide +kernel)) (hts (.code Lib.Math.abs.name Lib.Math.abs.code 1 (some .int)) (by first | exact List.mem_of_getElem? (i := 7) rfl | decide +kernel)) (Nat.le_of_ble_eq_true rfl) (Nat.le_of_ble_eq_true rfl) (Nat.le_of_ble_eq_true rfl) (Nat.le_of_ble_eq_true rfl) dX0_greatestSize_42 ?_
              refine va_mmax hx hb (hml.trans hl.1.symm) hown (hts (.methodLink RX0 61 Lib.Math.max.name) (by decide +kernel)) (hts (.static Lib.Math.max.name) (by decide +kernel)) (hts (.initialized "java/lang/Math") (by decide +kernel)) (hts (.code Lib.Math.max.name Lib.Math.max.code 2 (some .int)) (by first | exact List.mem_of_getElem? (i := 10) rfl | decide +kernel)) (Nat.le_of_ble_eq_true rfl) (Nat.le_of_ble_eq_true rfl) (Nat.le_of_ble_eq_true rfl) (Nat.le_of_ble_eq_true rfl) dX0_greatestSize_45 ?_
              refine lv_istore_n (lv' := [(1, .int (if n1 < (if 0 ≤ (f k) then (f k) else 0 - (f k)) then (if 0 ≤ (f k) then (f k) else 0 - (f k)) else n1)), (0, .ref h0), (2, .int (nI y0)), (3, .int (nI (64 * (8 * y0 + w)))), (4, .int (nI k))]) hx hb dX0_greatestSize_48 rfl hl (by decide) rfl (fun ls hl => ?_)
              refine lv_iinc (v := nI (k + 1)) (lv' := [(4, .int (nI (k + 1))), (1, .int (if n1 < (if 0 ≤ (f k) then (f k) else 0 - (f k)) then (if 0 ≤ (f k) then (f k) else 0 - (f k)) else n1)), (0, .ref h0), (2, .int (nI y0)), (3, .int (nI (64 * (8 * y0 + w))))]) hx hb dX0_greatestSize_49 hl (k := 4) rfl (by rw [← nI_add]; rfl) (by decide) rfl (fun ls hl => ?_)
              refine lv_goto (tgt := 28) hx hb dX0_greatestSize_52 (by decide) ?_
              exact ih28 (k + 1) (if n1 < (if 0 ≤ (f k) then (f k) else 0 - (f k)) then (if 0 ≤ (f k) then (f k) else 0 - (f k)) else n1) (by omega) (by omega) (by rw [cf_row_s hk1, ← hI1]; exact cf_mc_ms hp1) (by omega) (by show 0 ≤ cf_mc n1 (f k); rw [cf_mc_ms hp1]; exact cf_ms_pos hp1) ls (lv_sub hl [2, 1, 3, 4, 0] rfl)
        exact lp28 (64 * (8 * y0 + w) + 1) (64 * (8 * y0 + 0)) n0 (by omega) (by omega) (by rw [cf_row_0 (by omega)]; exact hI) (by omega) hp0 ls (lv_sub hl [2, 3, 4, 1, 0] rfl)
  exact lp4 (h + 1) 0 (nI 0) (by omega) (by omega) rfl (Int32.le_refl _) ls (lv_sub hl [2, 1, 0] rfl)
set_option maxHeartbeats 4000000 in
set_option maxRecDepth 100000 in
/-- X0_at -/
theorem kX0_at (l : Launch) (dC : Nat → ClassId) (dI : Nat → Nat → Nat) (h0 a1 a2 : Nat) (cA cB : ClassId) (f g : Nat → Int32) (w h kw kh : Nat) (bx bz q : Int32) (hw : w ≤ 8) (hh : h ≤ 8) : Met l yX0_at wsX0_at ({ frames := 1, cells := 0, slots := 0, locals := 22 }) (va_Pc [.ref h0, .int bx, .int bz, .int q] (fun U => va_P (dC, dI) vwCm [(h0, .inr (0, [.ref a1, .ref a2, .int (nI w), .int (nI h), .int (nI kw), .int (nI kh)])), (a1, .inl (cA, 4096, .inl f)), (a2, .inl (cB, 4096, .inl g))] U.heap ∧ va_K (dC, dI) vwCm [(cA, .int), (cB, .int)] U)) (vp_Si (fun r : Int32 => r = cf_at w h (cf_V f) bx bz q)) 0 0 (fun _ => False) := by
  refine Met.ofW (cc := cX0_at) (maxL := 4) (ret := (some .int)) (by decide) rfl ?_
  intro p e s m args below meth c s₁ B hml hv
  obtain ⟨rfl, hP, hK⟩ := hv
  have hx := B.exec
  have hb := B.bytes
  have hr := B.returns
  have hts := atoms_spec (ws := wsX0_at) B.pre
  have hown : s.vm.findClass RX0 = some m.cls := findClass_of_methodNamed B.named
  have hlocks := B.notSynchronized
  have hl := lv_entry ([.ref h0, .int bx, .int bz, .int q]) (n := 4) (Nat.le_of_ble_eq_true rfl)
  rw [lg_entry_eq]
  generalize (lg_sl ([.ref h0, .int bx, .int bz, .int q]) ++ List.replicate (4 - (lg_sl ([.ref h0, .int bx, .int bz, .int q])).length) Slot.unset).toArray = ls at hl ⊢
  have hl : lv_has ls 4 [(0, .ref h0), (1, .int bx), (2, .int bz), (3, .int q)] := hl
  refine lv_aload_n hx hb dX0_at_0 rfl (lv_at hl 0 rfl) ?_
  refine lv_iload_n hx hb dX0_at_1 rfl (lv_at hl 1 rfl) ?_
  refine lv_iload_n hx hb dX0_at_2 rfl (lv_at hl 2 rfl) ?_
  have hPc := hP.sub (ws' := [(h0, .inr (0, [.ref a1, .ref a2, .int (nI w), .int (nI h), .int (nI kw), .int (nI kh)])), (a1, .inl (cA, 4096, .inl f)), (a2, .inl (cB, 4096, .inl g))]) [0, 1, 2] rfl
  have hKc := hK.sub (tys' := [(cA, .int), (cB, .int)]) [0, 1] rfl
  refine vp_callSi (W.runV (As := [.int bx, .int bz]) (rest := []) ⟨hx, hb, hml, hown, hts⟩ (kX0_isBlock l dC dI h0 a1 a2 cA cB f g w h kw kh bx bz) (cwV 2 hts gX0_at_X0_isBlock rfl rfl rfl (by decide +kernel) ⟨Nat.le_of_ble_eq_true rfl, Nat.le_of_ble_eq_true rfl⟩) ⟨fun a U g mk q => by obtain ⟨q0, qP, qK⟩ := q; exact ⟨q0, qP, va_K.moved (u := U) (U := U.calling g mk a) (Vm.Alike.refl U.vm) qK⟩, va_recv hKc hPc (ci := 0) (q0 := 0) rfl rfl, fun U hU hW => ⟨rfl, by rw [hU]; exact hPc, va_K.moved hW.alike hKc⟩⟩ rfl rfl hl.1 rfl (lv_room (Nat.le_of_ble_eq_true rfl)) dX0_at_3 ⟨Nat.le_of_ble_eq_true rfl, Nat.le_of_ble_eq_true rfl⟩) (fun r3 w3 => ?_)
  subst w3
  refine lv_if_eq (tgt := 16) hx hb dX0_at_6 (by decide) (fun c6 => ?_) (fun c6 => ?_)
  · skip
    refine lv_iconst (v := nI 0) hx hb dX0_at_16 (by decide +kernel) ?_
    exact W.iret hx hb hr (fun t ht hW => ⟨_, rfl, (by unfold cf_at; first | (rw [if_pos c6]; try exact nI_0) | (rw [if_neg c6, if_pos c13]; try exact nI_0)), ht⟩) (fun q h => by cases h) dX0_at_17
  · skip
    obtain ⟨x, z, hx_, hz_, ebx, ebz⟩ := cf_ib_1 hw hh c6
    refine lv_iload_n hx hb dX0_at_9 rfl (lv_at hl 3 rfl) ?_
    refine vp_callSi (W.runS (As := [.int q]) (rest := []) ⟨hx, hb, hml, hown, hts⟩ (kX0_isPlace l q) (va_cwS 1 hts gX0_at_X0_isPlace rfl rfl rfl (by decide +kernel) ⟨Nat.le_of_ble_eq_true rfl, Nat.le_of_ble_eq_true rfl⟩) ⟨fun a U g mk q => q, fun U hU hW => ⟨rfl, trivial⟩⟩ rfl rfl hl.1 rfl (lv_room (Nat.le_of_ble_eq_true rfl)) dX0_at_10 ⟨Nat.le_of_ble_eq_true rfl, Nat.le_of_ble_eq_true rfl⟩) (fun r10 w10 => ?_)
    subst w10
    refine lv_if_ne (tgt := 18) hx hb dX0_at_13 (by decide) (fun c13 => ?_) (fun c13 => ?_)
    · skip
      obtain ⟨j, hj, eq⟩ := cf_ip_1 c13
      refine lv_aload_n hx hb dX0_at_18 rfl (lv_at hl 0 rfl) ?_
      refine va_get (D := (dC, dI)) (ci := 0) (v := .ref a1) (C := RX0) (T := TX0) (N := 6) hx hb hts (by decide +kernel) hown hK hP 0 rfl rfl 0 (by decide) (hts (.fieldLink RX0 26 "CoefTurns" "cells" "[I") (by decide +kernel)) (fun _ h9 => h9) rfl dX0_at_19 ?_
      refine lv_iload_n hx hb dX0_at_22 rfl (lv_at hl 1 rfl) ?_
      refine cf_top ebx ?_
      refine lv_iload_n hx hb dX0_at_23 rfl (lv_at hl 2 rfl) ?_
      refine cf_top ebz ?_
      refine vp_callSi (W.runS (As := [.int (nI x), .int (nI z)]) (rest := [.ref a1]) ⟨hx, hb, hml, hown, hts⟩ (kX0_blockStart l x z) (va_cwS 2 hts gX0_at_X0_blockStart rfl rfl rfl (by decide +kernel) ⟨Nat.le_of_ble_eq_true rfl, Nat.le_of_ble_eq_true rfl⟩) ⟨fun a U g mk q => q, fun U hU hW => ⟨rfl, trivial⟩⟩ rfl rfl hl.1 rfl (lv_room (Nat.le_of_ble_eq_true rfl)) dX0_at_24 ⟨Nat.le_of_ble_eq_true rfl, Nat.le_of_ble_eq_true rfl⟩) (fun r24 w24 => ?_)
      subst w24
      refine lv_iload_n hx hb dX0_at_27 rfl (lv_at hl 3 rfl) ?_
      refine cf_top eq ?_
      refine lv_iadd hx hb dX0_at_28 ?_
      refine cf_top (nI_add _ _) ?_
      refine cf_iald (D := (dC, dI)) hx hb hK hP 1 0 rfl rfl (k := 64 * (8 * z + x) + j) (by omega) (by decide) dX0_at_29 ?_
      exact W.iret hx hb hr (fun t ht hW => ⟨_, rfl, (by rw [ebx, ebz, eq, cf_at_n hw hh hx_ hz_ hj]; rfl), ht⟩) (fun q h => by cases h) dX0_at_30
    · skip
      refine lv_iconst (v := nI 0) hx hb dX0_at_16 (by decide +kernel) ?_
      exact W.iret hx hb hr (fun t ht hW => ⟨_, rfl, (by unfold cf_at; first | (rw [if_pos c6]; try exact nI_0) | (rw [if_neg c6, if_pos c13]; try exact nI_0)), ht⟩) (fun q h => by cases h) dX0_at_17
end
section
set_option maxHeartbeats 4000000 in
set_option maxRecDepth 100000 in
/-- X0_four -/
theorem kX0_four (l : Launch) (dC : Nat → ClassId) (dI : Nat → Nat → Nat) (h0 a1 a2 : Nat) (cA cB : ClassId) (f g : Nat → Int32) (w h kw kh : Nat) (bx bz v t : Int32) (hw : w ≤ 8) (hh : h ≤ 8) : Met l yX0_four wsX0_four ({ frames := 1, cells := 0, slots := 0, locals := 22 }) (va_Pc [.ref h0, .int bx, .int bz, .int v, .int t] (fun U => va_P (dC, dI) vwCm [(h0, .inr (0, [.ref a1, .ref a2, .int (nI w), .int (nI h), .int (nI kw), .int (nI kh)])), (a1, .inl (cA, 4096, .inl f)), (a2, .inl (cB, 4096, .inl g))] U.heap ∧ va_K (dC, dI) vwCm [(cA, .int), (cB, .int)] U)) (vp_Sl (fun r : Int64 => r = cf_fou w h (cf_V f) bx bz v t)) 0 0 (fun _ => False) := by
  refine Met.ofW (cc := cX0_four) (maxL := 9) (ret := (some .long)) (by decide) rfl ?_
  intro p e s m args below meth c s₁ B hml hv
  obtain ⟨rfl, hP, hK⟩ := hv
  have hx := B.exec
  have hb := B.bytes
  have hr := B.returns
  have hts := atoms_spec (ws := wsX0_four) B.pre
  have hown : s.vm.findClass RX0 = some m.cls := findClass_of_methodNamed B.named
  have hlocks := B.notSynchronized
  have hl := lv_entry ([.ref h0, .int bx, .int bz, .int v, .int t]) (n := 9) (Nat.le_of_ble_eq_true rfl)
  rw [lg_entry_eq]
  generalize (lg_sl ([.ref h0, .int bx, .int bz, .int v, .int t]) ++ List.replicate (9 - (lg_sl ([.ref h0, .int bx, .int bz, .int v, .int t])).length) Slot.unset).toArray = ls at hl ⊢
  have hl : lv_has ls 9 [(0, .ref h0), (1, .int bx), (2, .int bz), (3, .int v), (4, .int t)] := hl
  refine lv_aload_n hx hb dX0_four_0 rfl (lv_at hl 0 rfl) ?_
  refine lv_iload_n hx hb dX0_four_1 rfl (lv_at hl 1 rfl) ?_
  refine lv_iload_n hx hb dX0_four_2 rfl (lv_at hl 2 rfl) ?_
  have hPc := hP.sub (ws' := [(h0, .inr (0, [.ref a1, .ref a2, .int (nI w), .int (nI h), .int (nI kw), .int (nI kh)])), (a1, .inl (cA, 4096, .inl f)), (a2, .inl (cB, 4096, .inl g))]) [0, 1, 2] rfl
  have hKc := hK.sub (tys' := [(cA, .int), (cB, .int)]) [0, 1] rfl
  refine vp_callSi (W.runV (As := [.int bx, .int bz]) (rest := []) ⟨hx, hb, hml, hown, hts⟩ (kX0_isBlock l dC dI h0 a1 a2 cA cB f g w h kw kh bx bz) (cwV 2 hts gX0_four_X0_isBlock rfl rfl rfl (by decide +kernel) ⟨Nat.le_of_ble_eq_true rfl, Nat.le_of_ble_eq_true rfl⟩) ⟨fun a U g mk q => by obtain ⟨q0, qP, qK⟩ := q; exact ⟨q0, qP, va_K.moved (u := U) (U := U.calling g mk a) (Vm.Alike.refl U.vm) qK⟩, va_recv hKc hPc (ci := 0) (q0 := 0) rfl rfl, fun U hU hW => ⟨rfl, by rw [hU]; exact hPc, va_K.moved hW.alike hKc⟩⟩ rfl rfl hl.1 rfl (lv_room (Nat.le_of_ble_eq_true rfl)) dX0_four_3 ⟨Nat.le_of_ble_eq_true rfl, Nat.le_of_ble_eq_true rfl⟩) (fun r3 w3 => ?_)
  subst w3
  refine lv_if_eq (tgt := 30) hx hb dX0_four_6 (by decide) (fun c6 => ?_) (fun c6 => ?_)
  · skip
    refine lv_lconst (v := 0) hx hb dX0_four_30 (by decide +kernel) ?_
    exact W.lret hx hb hr (fun t ht hW => ⟨_, rfl, (by unfold cf_fou; first | rw [if_pos c6] | rw [if_neg c6, if_pos c10] | rw [if_neg c6, if_neg c10, if_pos c16] | rw [if_neg c6, if_neg c10, if_neg c16, if_pos c21] | rw [if_neg c6, if_neg c10, if_neg c16, if_neg c21, if_pos (cf_nle c27)]), ht⟩) (fun q h => by cases h) dX0_four_31
  · skip
    obtain ⟨x, z, hx_, hz_, ebx, ebz⟩ := cf_ib_1 hw hh c6
    refine lv_iload_n hx hb dX0_four_9 rfl (lv_at hl 3 rfl) ?_
    refine lv_if_lt (tgt := 30) hx hb dX0_four_10 (by decide) (fun c10 => ?_) (fun c10 => ?_)
    · skip
      refine lv_lconst (v := 0) hx hb dX0_four_30 (by decide +kernel) ?_
      exact W.lret hx hb hr (fun t ht hW => ⟨_, rfl, (by unfold cf_fou; first | rw [if_pos c6] | rw [if_neg c6, if_pos c10] | rw [if_neg c6, if_neg c10, if_pos c16] | rw [if_neg c6, if_neg c10, if_neg c16, if_pos c21] | rw [if_neg c6, if_neg c10, if_neg c16, if_neg c21, if_pos (cf_nle c27)]), ht⟩) (fun q h => by cases h) dX0_four_31
    · skip
      refine lv_iload_n hx hb dX0_four_13 rfl (lv_at hl 3 rfl) ?_
      refine lv_bipush (v := nI 8) hx hb dX0_four_14 (by decide +kernel) ?_
      refine lv_icmp_ge (tgt := 30) hx hb dX0_four_16 (by decide) (fun c16 => ?_) (fun c16 => ?_)
      · skip
        refine lv_lconst (v := 0) hx hb dX0_four_30 (by decide +kernel) ?_
        exact W.lret hx hb hr (fun t ht hW => ⟨_, rfl, (by unfold cf_fou; first | rw [if_pos c6] | rw [if_neg c6, if_pos c10] | rw [if_neg c6, if_neg c10, if_pos c16] | rw [if_neg c6, if_neg c10, if_neg c16, if_pos c21] | rw [if_neg c6, if_neg c10, if_neg c16, if_neg c21, if_pos (cf_nle c27)]), ht⟩) (fun q h => by cases h) dX0_four_31
      · skip
        refine lv_iload hx hb dX0_four_19 (lv_at hl 4 rfl) ?_
        refine lv_if_lt (tgt := 30) hx hb dX0_four_21 (by decide) (fun c21 => ?_) (fun c21 => ?_)
        · skip
          refine lv_lconst (v := 0) hx hb dX0_four_30 (by decide +kernel) ?_
          exact W.lret hx hb hr (fun t ht hW => ⟨_, rfl, (by unfold cf_fou; first | rw [if_pos c6] | rw [if_neg c6, if_pos c10] | rw [if_neg c6, if_neg c10, if_pos c16] | rw [if_neg c6, if_neg c10, if_neg c16, if_pos c21] | rw [if_neg c6, if_neg c10, if_neg c16, if_neg c21, if_pos (cf_nle c27)]), ht⟩) (fun q h => by cases h) dX0_four_31
        · skip
          refine lv_iload hx hb dX0_four_24 (lv_at hl 4 rfl) ?_
          refine lv_iconst (v := nI 1) hx hb dX0_four_26 (by decide +kernel) ?_
          refine lv_icmp_le (tgt := 32) hx hb dX0_four_27 (by decide) (fun c27 => ?_) (fun c27 => ?_)
          · skip
            obtain ⟨v0, hv0, ev⟩ := cf_in (by omega) c10 c16
            obtain ⟨t0, ht0, et⟩ := cf_le1 c21 (cf_nlt c27)
            refine lv_iload_n hx hb dX0_four_32 rfl (lv_at hl 1 rfl) ?_
            refine cf_top ebx ?_
            refine lv_iload_n hx hb dX0_four_33 rfl (lv_at hl 2 rfl) ?_
            refine cf_top ebz ?_
            refine vp_callSi (W.runS (As := [.int (nI x), .int (nI z)]) (rest := []) ⟨hx, hb, hml, hown, hts⟩ (kX0_blockStart l x z) (va_cwS 2 hts gX0_four_X0_blockStart rfl rfl rfl (by decide +kernel) ⟨Nat.le_of_ble_eq_true rfl, Nat.le_of_ble_eq_true rfl⟩) ⟨fun a U g mk q => q, fun U hU hW => ⟨rfl, trivial⟩⟩ rfl rfl hl.1 rfl (lv_room (Nat.le_of_ble_eq_true rfl)) dX0_four_34 ⟨Nat.le_of_ble_eq_true rfl, Nat.le_of_ble_eq_true rfl⟩) (fun r34 w34 => ?_)
            subst w34
            refine lv_bipush (v := nI 8) hx hb dX0_four_37 (by decide +kernel) ?_
            refine lv_iload_n hx hb dX0_four_39 rfl (lv_at hl 3 rfl) ?_
            refine cf_top ev ?_
            refine lv_imul hx hb dX0_four_40 ?_
            refine cf_top (pk_mul _ _) ?_
            refine lv_iadd hx hb dX0_four_41 ?_
            refine cf_top (nI_add _ _) ?_
            refine lv_iconst (v := nI 4) hx hb dX0_four_42 (by decide +kernel) ?_
            refine lv_iload hx hb dX0_four_43 (lv_at hl 4 rfl) ?_
            refine cf_top et ?_
            refine lv_imul hx hb dX0_four_45 ?_
            refine cf_top (pk_mul _ _) ?_
            refine lv_iadd hx hb dX0_four_46 ?_
            refine cf_top (nI_add _ _) ?_
            refine lv_istore (lv' := [(5, .int (nI (64 * (8 * z + x) + 8 * v0 + 4 * t0))), (0, .ref h0), (1, .int bx), (2, .int bz), (3, .int v), (4, .int t)]) hx hb dX0_four_47 hl (by decide) rfl (fun ls hl => ?_)
            refine lv_lconst (v := 0) hx hb dX0_four_49 (by decide +kernel) ?_
            refine lv_lstore (lv' := [(6, .long 0), (5, .int (nI (64 * (8 * z + x) + 8 * v0 + 4 * t0))), (0, .ref h0), (1, .int bx), (2, .int bz), (3, .int v), (4, .int t)]) hx hb dX0_four_50 hl (by decide) rfl (fun ls hl => ?_)
            refine lv_iload hx hb dX0_four_52 (lv_at hl 1 rfl) ?_
            refine lv_istore (lv' := [(8, .int (nI (64 * (8 * z + x) + 8 * v0 + 4 * t0))), (6, .long 0), (5, .int (nI (64 * (8 * z + x) + 8 * v0 + 4 * t0))), (0, .ref h0), (1, .int bx), (2, .int bz), (3, .int v), (4, .int t)]) hx hb dX0_four_54 hl (by decide) rfl (fun ls hl => ?_)
            have lp56 : ∀ (n56 : Nat) (k : Nat) (acc : Int64), k ≤ 64 * (8 * z + x) + 8 * v0 + 4 * t0 + 4 → 64 * (8 * z + x) + 8 * v0 + 4 * t0 + 4 < k + n56 → acc = cf_fo (cf_fst f (64 * (8 * z + x) + 8 * v0 + 4 * t0)) (k - (64 * (8 * z + x) + 8 * v0 + 4 * t0)) 0 → 64 * (8 * z + x) + 8 * v0 + 4 * t0 ≤ k → ∀ (ls : Array Slot), lv_has ls 9 [(0, .ref h0), (5, .int (nI (64 * (8 * z + x) + 8 * v0 + 4 * t0))), (6, .long acc), (8, .int (nI k))] → W p l e (headSpec wsX0_four ({ frames := 1, cells := 0, slots := 0, locals := 22 })).room s m ([.ref h0, .int bx, .int bz, .int v, .int t] : List Value).toArray below meth c s.heap [] 0 0 (MQ below (vp_Sl (fun r : Int64 => r = cf_fou w h (cf_V f) bx bz v t)) ([.ref h0, .int bx, .int bz, .int v, .int t] : List Value).toArray s 0 0 (fun _ => False)) (F0 m 56 ls []) := by
              intro n56
              induction n56 with
              | zero => intro k acc h1 h2; exact absurd h2 (by omega)
              | succ n56 ih56 =>
                intro k acc hk56 hn56 hI hk1 ls hl
                refine lv_iload hx hb dX0_four_56 (lv_at hl 3 rfl) ?_
                refine lv_iload hx hb dX0_four_58 (lv_at hl 1 rfl) ?_
                refine lv_iconst (v := nI 4) hx hb dX0_four_60 (by decide +kernel) ?_
                refine lv_iadd hx hb dX0_four_61 ?_
                refine cf_top (nI_add _ _) ?_
                refine lv_icmp_ge (tgt := 90) hx hb dX0_four_62 (by decide) (fun c62 => ?_) (fun c62 => ?_)
                · skip
                  have c62 := (nI_leI (a := 64 * (8 * z + x) + 8 * v0 + 4 * t0 + 4) (b := k) (by omega) (by omega)).mp c62
                  refine lv_lload hx hb dX0_four_90 (lv_at hl 2 rfl) ?_
                  exact W.lret hx hb hr (fun t ht hW => ⟨_, rfl, (by rw [ebx, ebz, ev, et, cf_fou_n hw hh hx_ hz_ hv0 ht0, ← cf_fst_e, hI, show k - (64 * (8 * z + x) + 8 * v0 + 4 * t0) = 4 by omega, Nat.add_assoc]), ht⟩) (fun q h => by cases h) dX0_four_92
                · skip
                  have c62 := mt (nI_leI (a := 64 * (8 * z + x) + 8 * v0 + 4 * t0 + 4) (b := k) (by omega) (by omega)).mpr c62
                  refine lv_lload hx hb dX0_four_65 (lv_at hl 2 rfl) ?_
                  refine lv_bipush (v := nI 16) hx hb dX0_four_67 (by decide +kernel) ?_
                  refine lv_lshl hx hb dX0_four_69 rfl ?_
                  refine lv_aload_n hx hb dX0_four_70 rfl (lv_at hl 0 rfl) ?_
                  refine va_get (D := (dC, dI)) (ci := 0) (v := .ref a1) (C := RX0) (T := TX0) (N := 6) hx hb hts (by decide +kernel) hown hK hP 0 rfl rfl 0 (by decide) (hts (.fieldLink RX0 26 "CoefTurns" "cells" "[I") (by decide +kernel)) (fun _ h9 => h9) rfl dX0_four_71 ?_
                  refine lv_iload hx hb dX0_four_74 (lv_at hl 3 rfl) ?_
                  refine cf_iald (D := (dC, dI)) hx hb hK hP 1 0 rfl rfl (k := k) (by omega) (by decide) dX0_four_76 ?_
                  refine lv_ldc (v := nI 65535) hx hb hown (hts (.constant RX0 97 65535) (by decide +kernel)) dX0_four_77 ?_
                  refine lv_iand hx hb dX0_four_79 ?_
                  refine lv_i2l hx hb dX0_four_80 rfl ?_
                  refine lv_lor hx hb dX0_four_81 ?_
                  refine lv_lstore (lv' := [(6, .long ((acc <<< ((nI 16).toInt64 &&& 63)) ||| (((f k) &&& (nI 65535)).toInt64))), (0, .ref h0), (5, .int (nI (64 * (8 * z + x) + 8 * v0 + 4 * t0))), (8, .int (nI k))]) hx hb dX0_four_82 hl (by decide) rfl (fun ls hl => ?_)
                  refine lv_iinc (v := nI (k + 1)) (lv' := [(8, .int (nI (k + 1))), (6, .long ((acc <<< ((nI 16).toInt64 &&& 63)) ||| (((f k) &&& (nI 65535)).toInt64))), (0, .ref h0), (5, .int (nI (64 * (8 * z + x) + 8 * v0 + 4 * t0)))]) hx hb dX0_four_84 hl (k := 3) rfl (by rw [← nI_add]; rfl) (by decide) rfl (fun ls hl => ?_)
                  refine lv_goto (tgt := 56) hx hb dX0_four_87 (by decide) ?_
                  exact ih56 (k + 1) ((acc <<< ((nI 16).toInt64 &&& 63)) ||| (((f k) &&& (nI 65535)).toInt64)) (by omega) (by omega) (by rw [hI]; exact cf_fo_k (cf_fst f _) hk1 (by unfold cf_fst; rw [show (64 * (8 * z + x) + 8 * v0 + 4 * t0) + (k - (64 * (8 * z + x) + 8 * v0 + 4 * t0)) = k by omega])) (by omega) ls (lv_sub hl [2, 3, 1, 0] rfl)
            exact lp56 (64 * (8 * z + x) + 8 * v0 + 4 * t0 + 4 + 1) (64 * (8 * z + x) + 8 * v0 + 4 * t0) 0 (by omega) (by omega) (by rw [Nat.sub_self]; rfl) (Nat.le_refl _) ls (lv_sub hl [3, 2, 1, 0] rfl)
          · skip
            refine lv_lconst (v := 0) hx hb dX0_four_30 (by decide +kernel) ?_
            exact W.lret hx hb hr (fun t ht hW => ⟨_, rfl, (by unfold cf_fou; first | rw [if_pos c6] | rw [if_neg c6, if_pos c10] | rw [if_neg c6, if_neg c10, if_pos c16] | rw [if_neg c6, if_neg c10, if_neg c16, if_pos c21] | rw [if_neg c6, if_neg c10, if_neg c16, if_neg c21, if_pos (cf_nle c27)]), ht⟩) (fun q h => by cases h) dX0_four_31
set_option maxHeartbeats 4000000 in
set_option maxRecDepth 100000 in
/-- X0_swap -/
theorem kX0_swap (l : Launch) (dC : Nat → ClassId) (dI : Nat → Nat → Nat) (sz : Nat) (h0 a1 a2 : Nat) (cA cB : ClassId) (f g : Nat → Int32) (w h kw kh : Nat) (ax az bx bz : Int32) (hw : w ≤ 8) (hh : h ≤ 8) : Met l yX0_swap wsX0_swap ({ frames := 2, cells := 0, slots := 0, locals := 46 }) (va_Pc [.ref h0, .int ax, .int az, .int bx, .int bz] (fun U => U.heap.size = sz ∧ va_P (dC, dI) vwCm [(h0, .inr (0, [.ref a1, .ref a2, .int (nI w), .int (nI h), .int (nI kw), .int (nI kh)])), (a1, .inl (cA, 4096, .inl f)), (a2, .inl (cB, 4096, .inl g))] U.heap ∧ va_K (dC, dI) vwCm [(cA, .int), (cB, .int)] U ∧ va_D (fun _ => True) [(h0, .inr (0, [.ref a1, .ref a2, .int (nI w), .int (nI h), .int (nI kw), .int (nI kh)])), (a1, .inl (cA, 4096, .inl f)), (a2, .inl (cB, 4096, .inl g))])) (va_Qi (fun (r : Int32) (u : Nat → Int32) => r = cf_swr w h ax az bx bz ∧ cf_Ag w h (cf_V u) (cf_swG w h ax az bx bz (cf_V f))) (fun (u : Nat → Int32) (t : State) => va_P (dC, dI) vwCm [(h0, .inr (0, [.ref a1, .ref a2, .int (nI w), .int (nI h), .int (nI kw), .int (nI kh)])), (a1, .inl (cA, 4096, .inl u)), (a2, .inl (cB, 4096, .inl g))] t.heap ∧ va_K (dC, dI) vwCm [(cA, .int), (cB, .int)] t ∧ va_D (va_A [(h0, .inr (0, [.ref a1, .ref a2, .int (nI w), .int (nI h), .int (nI kw), .int (nI kh)])), (a1, .inl (cA, 4096, .inl f)), (a2, .inl (cB, 4096, .inl g))] sz) [(h0, .inr (0, [.ref a1, .ref a2, .int (nI w), .int (nI h), .int (nI kw), .int (nI kh)])), (a1, .inl (cA, 4096, .inl u)), (a2, .inl (cB, 4096, .inl g))]) (va_A [(h0, .inr (0, [.ref a1, .ref a2, .int (nI w), .int (nI h), .int (nI kw), .int (nI kh)])), (a1, .inl (cA, 4096, .inl f)), (a2, .inl (cB, 4096, .inl g))] sz)) 0 0 (va_A [(h0, .inr (0, [.ref a1, .ref a2, .int (nI w), .int (nI h), .int (nI kw), .int (nI kh)])), (a1, .inl (cA, 4096, .inl f)), (a2, .inl (cB, 4096, .inl g))] sz) := by
  refine Met.ofW (cc := cX0_swap) (maxL := 5) (ret := (some .boolean)) (by decide) rfl ?_
  intro p e s m args below meth c s₁ B hml hv
  obtain ⟨rfl, hsz, hP, hK, hD0⟩ := hv
  have hx := B.exec
  have hb := B.bytes
  have hr := B.returns
  have hts := atoms_spec (ws := wsX0_swap) B.pre
  have hown : s.vm.findClass RX0 = some m.cls := findClass_of_methodNamed B.named
  have hlocks := B.notSynchronized
  subst hsz
  have hD := hD0.self (sz := s.heap.size)
  generalize hAe : va_A [(h0, .inr (0, [.ref a1, .ref a2, .int (nI w), .int (nI h), .int (nI kw), .int (nI kh)])), (a1, .inl (cA, 4096, .inl f)), (a2, .inl (cB, 4096, .inl g))] s.heap.size = A at hD ⊢
  have hA : ∀ q : Nat, s.heap.size ≤ q → A q := fun q h => by rw [← hAe]; exact Or.inr h
  have hS : va_S A s.heap s.heap [] := va_S.rf
  have hP : va_P (dC, dI) vwCm [(h0, .inr (0, [.ref a1, .ref a2, .int (nI w), .int (nI h), .int (nI kw), .int (nI kh)])), (a1, .inl (cA, 4096, .inl f)), (a2, .inl (cB, 4096, .inl g))] s.heap := hP
  have hl := lv_entry ([.ref h0, .int ax, .int az, .int bx, .int bz]) (n := 5) (Nat.le_of_ble_eq_true rfl)
  rw [lg_entry_eq]
  generalize (lg_sl ([.ref h0, .int ax, .int az, .int bx, .int bz]) ++ List.replicate (5 - (lg_sl ([.ref h0, .int ax, .int az, .int bx, .int bz])).length) Slot.unset).toArray = ls at hl ⊢
  have hl : lv_has ls 5 [(0, .ref h0), (1, .int ax), (2, .int az), (3, .int bx), (4, .int bz)] := hl
  refine lv_aload_n hx hb dX0_swap_0 rfl (lv_at hl 0 rfl) ?_
  refine lv_iload_n hx hb dX0_swap_1 rfl (lv_at hl 1 rfl) ?_
  refine lv_iload_n hx hb dX0_swap_2 rfl (lv_at hl 2 rfl) ?_
  have hPc := hP.sub (ws' := [(h0, .inr (0, [.ref a1, .ref a2, .int (nI w), .int (nI h), .int (nI kw), .int (nI kh)])), (a1, .inl (cA, 4096, .inl f)), (a2, .inl (cB, 4096, .inl g))]) [0, 1, 2] rfl
  have hKc := hK.sub (tys' := [(cA, .int), (cB, .int)]) [0, 1] rfl
  refine vp_callSi (W.runV (As := [.int ax, .int az]) (rest := []) ⟨hx, hb, hml, hown, hts⟩ (kX0_isBlock l dC dI h0 a1 a2 cA cB f g w h kw kh ax az) (cwV 2 hts gX0_swap_X0_isBlock rfl rfl rfl (by decide +kernel) ⟨Nat.le_of_ble_eq_true rfl, Nat.le_of_ble_eq_true rfl⟩) ⟨fun a U g mk q => by obtain ⟨q0, qP, qK⟩ := q; exact ⟨q0, qP, va_K.moved (u := U) (U := U.calling g mk a) (Vm.Alike.refl U.vm) qK⟩, va_recv hKc hPc (ci := 0) (q0 := 0) rfl rfl, fun U hU hW => ⟨rfl, by rw [hU]; exact hPc, va_K.moved hW.alike hKc⟩⟩ rfl rfl hl.1 rfl (lv_room (Nat.le_of_ble_eq_true rfl)) dX0_swap_3 ⟨Nat.le_of_ble_eq_true rfl, Nat.le_of_ble_eq_true rfl⟩) (fun r3 w3 => ?_)
  subst w3
  refine lv_if_eq (tgt := 19) hx hb dX0_swap_6 (by decide) (fun c6 => ?_) (fun c6 => ?_)
  · skip
    refine lv_iconst (v := nI 0) hx hb dX0_swap_19 (by decide +kernel) ?_
    have hP9 := hP.sub (ws' := [(h0, .inr (0, [.ref a1, .ref a2, .int (nI w), .int (nI h), .int (nI kw), .int (nI kh)])), (a1, .inl (cA, 4096, .inl f)), (a2, .inl (cB, 4096, .inl g))]) [0, 1, 2] rfl
    have hD9 := hD.sub (ws' := [(h0, .inr (0, [.ref a1, .ref a2, .int (nI w), .int (nI h), .int (nI kw), .int (nI kh)])), (a1, .inl (cA, 4096, .inl f)), (a2, .inl (cB, 4096, .inl g))]) [0, 1, 2] (by decide) rfl
    exact W.zret (ty := .boolean) hx hb hr rfl (fun t ht hW => ⟨⟨_, f, rfl, (by unfold cf_swr cf_swG; first | (rw [if_pos c6, if_pos c6]; exact ⟨rfl, cf_Ag.rf⟩) | (rw [if_neg c6, if_pos c16, if_neg c6, if_pos c16]; exact ⟨rfl, cf_Ag.rf⟩)), by rw [ht]; exact hP9, va_K.moved hW.alike hK, hD9⟩, hS.F ht⟩) hS.2.2 dX0_swap_20
  · skip
    obtain ⟨x, z, hx_, hz_, eax, eaz⟩ := cf_ib_1 hw hh c6
    refine lv_aload_n hx hb dX0_swap_9 rfl (lv_at hl 0 rfl) ?_
    refine lv_iload_n hx hb dX0_swap_10 rfl (lv_at hl 3 rfl) ?_
    refine lv_iload hx hb dX0_swap_11 (lv_at hl 4 rfl) ?_
    have hPc := hP.sub (ws' := [(h0, .inr (0, [.ref a1, .ref a2, .int (nI w), .int (nI h), .int (nI kw), .int (nI kh)])), (a1, .inl (cA, 4096, .inl f)), (a2, .inl (cB, 4096, .inl g))]) [0, 1, 2] rfl
    have hKc := hK.sub (tys' := [(cA, .int), (cB, .int)]) [0, 1] rfl
    refine vp_callSi (W.runV (As := [.int bx, .int bz]) (rest := []) ⟨hx, hb, hml, hown, hts⟩ (kX0_isBlock l dC dI h0 a1 a2 cA cB f g w h kw kh bx bz) (cwV 2 hts gX0_swap_X0_isBlock rfl rfl rfl (by decide +kernel) ⟨Nat.le_of_ble_eq_true rfl, Nat.le_of_ble_eq_true rfl⟩) ⟨fun a U g mk q => by obtain ⟨q0, qP, qK⟩ := q; exact ⟨q0, qP, va_K.moved (u := U) (U := U.calling g mk a) (Vm.Alike.refl U.vm) qK⟩, va_recv hKc hPc (ci := 0) (q0 := 0) rfl rfl, fun U hU hW => ⟨rfl, by rw [hU]; exact hPc, va_K.moved hW.alike hKc⟩⟩ rfl rfl hl.1 rfl (lv_room (Nat.le_of_ble_eq_true rfl)) dX0_swap_13 ⟨Nat.le_of_ble_eq_true rfl, Nat.le_of_ble_eq_true rfl⟩) (fun r13 w13 => ?_)
    subst w13
    refine lv_if_ne (tgt := 21) hx hb dX0_swap_16 (by decide) (fun c16 => ?_) (fun c16 => ?_)
    · skip
      obtain ⟨x2, z2, hx2_, hz2_, ebx, ebz⟩ := cf_ib_1 hw hh c16
      refine lv_aload_n hx hb dX0_swap_21 rfl (lv_at hl 0 rfl) ?_
      refine lv_iload_n hx hb dX0_swap_22 rfl (lv_at hl 1 rfl) ?_
      refine cf_top eax ?_
      refine lv_iload_n hx hb dX0_swap_23 rfl (lv_at hl 2 rfl) ?_
      refine cf_top eaz ?_
      refine vp_callSi (W.runS (As := [.int (nI x), .int (nI z)]) (rest := [.ref h0]) ⟨hx, hb, hml, hown, hts⟩ (kX0_blockStart l x z) (va_cwS 2 hts gX0_swap_X0_blockStart rfl rfl rfl (by decide +kernel) ⟨Nat.le_of_ble_eq_true rfl, Nat.le_of_ble_eq_true rfl⟩) ⟨fun a U g mk q => q, fun U hU hW => ⟨rfl, trivial⟩⟩ rfl rfl hl.1 rfl (lv_room (Nat.le_of_ble_eq_true rfl)) dX0_swap_24 ⟨Nat.le_of_ble_eq_true rfl, Nat.le_of_ble_eq_true rfl⟩) (fun r24 w24 => ?_)
      subst w24
      refine lv_iload_n hx hb dX0_swap_27 rfl (lv_at hl 3 rfl) ?_
      refine cf_top ebx ?_
      refine lv_iload hx hb dX0_swap_28 (lv_at hl 4 rfl) ?_
      refine cf_top ebz ?_
      refine vp_callSi (W.runS (As := [.int (nI x2), .int (nI z2)]) (rest := [.int (nI (64 * (8 * z + x))), .ref h0]) ⟨hx, hb, hml, hown, hts⟩ (kX0_blockStart l x2 z2) (va_cwS 2 hts gX0_swap_X0_blockStart rfl rfl rfl (by decide +kernel) ⟨Nat.le_of_ble_eq_true rfl, Nat.le_of_ble_eq_true rfl⟩) ⟨fun a U g mk q => q, fun U hU hW => ⟨rfl, trivial⟩⟩ rfl rfl hl.1 rfl (lv_room (Nat.le_of_ble_eq_true rfl)) dX0_swap_30 ⟨Nat.le_of_ble_eq_true rfl, Nat.le_of_ble_eq_true rfl⟩) (fun r30 w30 => ?_)
      subst w30
      have hPc := hP.sub (ws' := [(h0, .inr (0, [.ref a1, .ref a2, .int (nI w), .int (nI h), .int (nI kw), .int (nI kh)])), (a1, .inl (cA, 4096, .inl f)), (a2, .inl (cB, 4096, .inl g))]) [0, 1, 2] rfl
      have hKc := hK.sub (tys' := [(cA, .int), (cB, .int)]) [0, 1] rfl
      have hDc := hD.sub (ws' := [(h0, .inr (0, [.ref a1, .ref a2, .int (nI w), .int (nI h), .int (nI kw), .int (nI kh)])), (a1, .inl (cA, 4096, .inl f)), (a2, .inl (cB, 4096, .inl g))]) [0, 1, 2] (by decide) rfl
      have hFc := va_free (wc := [(h0, .inr (0, [.ref a1, .ref a2, .int (nI w), .int (nI h), .int (nI kw), .int (nI kh)])), (a1, .inl (cA, 4096, .inl f)), (a2, .inl (cB, 4096, .inl g))]) hD hS hA [0, 1, 2] rfl
      refine va_callv (va_runV (As := [.int (nI (64 * (8 * z + x))), .int (nI (64 * (8 * z2 + x2)))]) (rest := []) ⟨hx, hb, hml, hown, hts⟩ (kX0_exchangeBlocks l dC dI s.heap.size h0 a1 a2 cA cB f g w h kw kh (8 * z + x) (8 * z2 + x2) (by omega) (by omega)) (cwV 2 hts gX0_swap_X0_exchangeBlocks rfl rfl rfl (by decide +kernel) ⟨Nat.le_of_ble_eq_true rfl, Nat.le_of_ble_eq_true rfl⟩) ⟨fun a U g mk q => by obtain ⟨q0, q1, qP, qK, qD⟩ := q; exact ⟨q0, q1, qP, va_K.moved (u := U) (U := U.calling g mk a) (Vm.Alike.refl U.vm) qK, qD⟩, va_recv hKc hPc (ci := 0) (q0 := 0) rfl rfl, fun U hU hW => ⟨rfl, by rw [hU], by rw [hU]; exact hPc, va_K.moved hW.alike hKc, hDc.weaken (fun _ _ _ _ => trivial)⟩⟩ rfl rfl hl.1 rfl (lv_room (Nat.le_of_ble_eq_true rfl)) dX0_swap_33 ⟨Nat.le_of_ble_eq_true rfl, Nat.le_of_ble_eq_true rfl⟩) hS (fun q _ h => hFc q h) hFc (fun u33 t H1 locs ht hvm w33 hB hz1 hk1 hS => ?_)
      obtain ⟨hP1, -, hD1⟩ := hB
      rw [ht] at hP1
      try dsimp only at w33
      obtain ⟨hP, hD⟩ := va_join (wr := []) (w1 := [(h0, .inr (0, [.ref a1, .ref a2, .int (nI w), .int (nI h), .int (nI kw), .int (nI kh)])), (a1, .inl (cA, 4096, .inl u33)), (a2, .inl (cB, 4096, .inl g))]) hP hD [0, 1, 2] [] rfl rfl (by decide) (by decide) hk1 hFc hP1 hD1
      generalize H1 = H at hP hS ⊢
      have hP : va_P (dC, dI) vwCm [(h0, .inr (0, [.ref a1, .ref a2, .int (nI w), .int (nI h), .int (nI kw), .int (nI kh)])), (a1, .inl (cA, 4096, .inl u33)), (a2, .inl (cB, 4096, .inl g))] H := hP
      have hD : va_D A [(h0, .inr (0, [.ref a1, .ref a2, .int (nI w), .int (nI h), .int (nI kw), .int (nI kh)])), (a1, .inl (cA, 4096, .inl u33)), (a2, .inl (cB, 4096, .inl g))] := hD
      refine lv_iconst (v := nI 1) hx hb dX0_swap_36 (by decide +kernel) ?_
      have hP9 := hP.sub (ws' := [(h0, .inr (0, [.ref a1, .ref a2, .int (nI w), .int (nI h), .int (nI kw), .int (nI kh)])), (a1, .inl (cA, 4096, .inl u33)), (a2, .inl (cB, 4096, .inl g))]) [0, 1, 2] rfl
      have hD9 := hD.sub (ws' := [(h0, .inr (0, [.ref a1, .ref a2, .int (nI w), .int (nI h), .int (nI kw), .int (nI kh)])), (a1, .inl (cA, 4096, .inl u33)), (a2, .inl (cB, 4096, .inl g))]) [0, 1, 2] (by decide) rfl
      exact W.zret (ty := .boolean) hx hb hr rfl (fun t ht hW => ⟨⟨_, u33, rfl, (by rw [eax, eaz, ebx, ebz, cf_swr_n hw hh hx_ hz_ hx2_ hz2_, cf_swG_n hw hh hx_ hz_ hx2_ hz2_]; exact ⟨rfl, cf_xB_sx w33 hw hx_ hx2_⟩), by rw [ht]; exact hP9, va_K.moved hW.alike hK, hD9⟩, hS.F ht⟩) hS.2.2 dX0_swap_37
    · skip
      refine lv_iconst (v := nI 0) hx hb dX0_swap_19 (by decide +kernel) ?_
      have hP9 := hP.sub (ws' := [(h0, .inr (0, [.ref a1, .ref a2, .int (nI w), .int (nI h), .int (nI kw), .int (nI kh)])), (a1, .inl (cA, 4096, .inl f)), (a2, .inl (cB, 4096, .inl g))]) [0, 1, 2] rfl
      have hD9 := hD.sub (ws' := [(h0, .inr (0, [.ref a1, .ref a2, .int (nI w), .int (nI h), .int (nI kw), .int (nI kh)])), (a1, .inl (cA, 4096, .inl f)), (a2, .inl (cB, 4096, .inl g))]) [0, 1, 2] (by decide) rfl
      exact W.zret (ty := .boolean) hx hb hr rfl (fun t ht hW => ⟨⟨_, f, rfl, (by unfold cf_swr cf_swG; first | (rw [if_pos c6, if_pos c6]; exact ⟨rfl, cf_Ag.rf⟩) | (rw [if_neg c6, if_pos c16, if_neg c6, if_pos c16]; exact ⟨rfl, cf_Ag.rf⟩)), by rw [ht]; exact hP9, va_K.moved hW.alike hK, hD9⟩, hS.F ht⟩) hS.2.2 dX0_swap_20
set_option maxHeartbeats 4000000 in
set_option maxRecDepth 100000 in
/-- X0_turn -/
theorem kX0_turn (l : Launch) (dC : Nat → ClassId) (dI : Nat → Nat → Nat) (sz : Nat) (h0 a1 a2 : Nat) (cA cB : ClassId) (f g : Nat → Int32) (w h kw kh : Nat) (q : Int32) (hw : w ≤ 8) (hh : h ≤ 8) (hw1 : 1 ≤ w) (hh1 : 1 ≤ h) : Met l yX0_turn wsX0_turn ({ frames := 4, cells := 0, slots := 0, locals := 92 }) (va_Pc [.ref h0, .int q] (fun U => U.heap.size = sz ∧ va_P (dC, dI) vwCm [(h0, .inr (0, [.ref a1, .ref a2, .int (nI w), .int (nI h), .int (nI kw), .int (nI kh)])), (a1, .inl (cA, 4096, .inl f)), (a2, .inl (cB, 4096, .inl g))] U.heap ∧ va_K (dC, dI) vwCm [(cA, .int), (cB, .int)] U ∧ va_D (fun _ => True) [(h0, .inr (0, [.ref a1, .ref a2, .int (nI w), .int (nI h), .int (nI kw), .int (nI kh)])), (a1, .inl (cA, 4096, .inl f)), (a2, .inl (cB, 4096, .inl g))])) (va_Qv (fun u : (Nat → Int32) × Nat × Nat => u.2.1 = (if cf_qn q % 2 = 1 then h else w) ∧ u.2.2 = (if cf_qn q % 2 = 1 then w else h) ∧ cf_Ag u.2.1 u.2.2 (cf_V u.1) (cf_tu (cf_qn q) w h (cf_V f))) (fun (u : (Nat → Int32) × Nat × Nat) (t : State) => va_P (dC, dI) vwCm [(h0, .inr (0, [.ref a1, .ref a2, .int (nI u.2.1), .int (nI u.2.2), .int (nI kw), .int (nI kh)])), (a1, .inl (cA, 4096, .inl u.1)), (a2, .inl (cB, 4096, .inl g))] t.heap ∧ va_K (dC, dI) vwCm [(cA, .int), (cB, .int)] t ∧ va_D (va_A [(h0, .inr (0, [.ref a1, .ref a2, .int (nI w), .int (nI h), .int (nI kw), .int (nI kh)])), (a1, .inl (cA, 4096, .inl f)), (a2, .inl (cB, 4096, .inl g))] sz) [(h0, .inr (0, [.ref a1, .ref a2, .int (nI u.2.1), .int (nI u.2.2), .int (nI kw), .int (nI kh)])), (a1, .inl (cA, 4096, .inl u.1)), (a2, .inl (cB, 4096, .inl g))]) (va_A [(h0, .inr (0, [.ref a1, .ref a2, .int (nI w), .int (nI h), .int (nI kw), .int (nI kh)])), (a1, .inl (cA, 4096, .inl f)), (a2, .inl (cB, 4096, .inl g))] sz)) 0 0 (va_A [(h0, .inr (0, [.ref a1, .ref a2, .int (nI w), .int (nI h), .int (nI kw), .int (nI kh)])), (a1, .inl (cA, 4096, .inl f)), (a2, .inl (cB, 4096, .inl g))] sz) := by
  refine Met.ofW (cc := cX0_turn) (maxL := 2) (ret := none) (by decide) rfl ?_
  intro p e s m args below meth c s₁ B hml hv
  obtain ⟨rfl, hsz, hP, hK, hD0⟩ := hv
  have hx := B.exec
  have hb := B.bytes
  have hr := B.returns
  have hts := atoms_spec (ws := wsX0_turn) B.pre
  have hown : s.vm.findClass RX0 = some m.cls := findClass_of_methodNamed B.named
  have hlocks := B.notSynchronized
  subst hsz
  have hD := hD0.self (sz := s.heap.size)
  generalize hAe : va_A [(h0, .inr (0, [.ref a1, .ref a2, .int (nI w), .int (nI h), .int (nI kw), .int (nI kh)])), (a1, .inl (cA, 4096, .inl f)), (a2, .inl (cB, 4096, .inl g))] s.heap.size = A at hD ⊢
  have hA : ∀ q : Nat, s.heap.size ≤ q → A q := fun q h => by rw [← hAe]; exact Or.inr h
  have hS : va_S A s.heap s.heap [] := va_S.rf
  have hP : va_P (dC, dI) vwCm [(h0, .inr (0, [.ref a1, .ref a2, .int (nI w), .int (nI h), .int (nI kw), .int (nI kh)])), (a1, .inl (cA, 4096, .inl f)), (a2, .inl (cB, 4096, .inl g))] s.heap := hP
  have hl := lv_entry ([.ref h0, .int q]) (n := 2) (Nat.le_of_ble_eq_true rfl)
  rw [lg_entry_eq]
  generalize (lg_sl ([.ref h0, .int q]) ++ List.replicate (2 - (lg_sl ([.ref h0, .int q])).length) Slot.unset).toArray = ls at hl ⊢
  have hl : lv_has ls 2 [(0, .ref h0), (1, .int q)] := hl
  have hq4 := (cf_qn_c q).2
  refine lv_iload_n hx hb dX0_turn_0 rfl (lv_at hl 1 rfl) ?_
  refine lv_iconst (v := nI 4) hx hb dX0_turn_1 (by decide +kernel) ?_
  refine vp_callSi (W.runS (As := [.int q, .int (nI 4)]) (rest := []) ⟨hx, hb, hml, hown, hts⟩ (kJ9_floorMod_7cf53 l q) (va_cwS 2 hts gX0_turn_J9_floorMod_7cf53 rfl rfl rfl (by decide +kernel) ⟨Nat.le_of_ble_eq_true rfl, Nat.le_of_ble_eq_true rfl⟩) ⟨fun a U g mk q => q, fun U hU hW => ⟨rfl, trivial⟩⟩ rfl rfl hl.1 rfl (lv_room (Nat.le_of_ble_eq_true rfl)) dX0_turn_2 ⟨Nat.le_of_ble_eq_true rfl, Nat.le_of_ble_eq_true rfl⟩) (fun r2 w2 => ?_)
  subst w2
  rcases (show cf_qn q = 0 ∨ cf_qn q = 1 ∨ cf_qn q = 2 ∨ cf_qn q = 3 by omega) with e | e | e | e
  · skip
    refine cf_top (congrArg nI e) ?_
    refine lv_tableOut (tgt := 65) hx hb dX0_turn_5 (by decide +kernel) (by decide) ?_
    have hP9 := hP.sub (ws' := [(h0, .inr (0, [.ref a1, .ref a2, .int (nI w), .int (nI h), .int (nI kw), .int (nI kh)])), (a1, .inl (cA, 4096, .inl f)), (a2, .inl (cB, 4096, .inl g))]) [0, 1, 2] rfl
    have hD9 := hD.sub (ws' := [(h0, .inr (0, [.ref a1, .ref a2, .int (nI w), .int (nI h), .int (nI kw), .int (nI kh)])), (a1, .inl (cA, 4096, .inl f)), (a2, .inl (cB, 4096, .inl g))]) [0, 1, 2] (by decide) rfl
    exact W.vret hx hb hr (fun t ht hW => ⟨⟨(f, w, h), rfl, (by rw [e]; exact ⟨rfl, rfl, cf_Ag.rf⟩), by rw [ht]; exact hP9, va_K.moved hW.alike hK, hD9⟩, hS.F ht⟩) hS.2.2 dX0_turn_65
  · skip
    refine cf_top (congrArg nI e) ?_
    refine lv_tableIn (off := 27) (tgt := 32) hx hb dX0_turn_5 (by decide +kernel) (by decide +kernel) (by decide +kernel) (by decide) ?_
    refine lv_aload_n hx hb dX0_turn_32 rfl (lv_at hl 0 rfl) ?_
    have hPc := hP.sub (ws' := [(h0, .inr (0, [.ref a1, .ref a2, .int (nI w), .int (nI h), .int (nI kw), .int (nI kh)])), (a1, .inl (cA, 4096, .inl f)), (a2, .inl (cB, 4096, .inl g))]) [0, 1, 2] rfl
    have hKc := hK.sub (tys' := [(cA, .int), (cB, .int)]) [0, 1] rfl
    have hDc := hD.sub (ws' := [(h0, .inr (0, [.ref a1, .ref a2, .int (nI w), .int (nI h), .int (nI kw), .int (nI kh)])), (a1, .inl (cA, 4096, .inl f)), (a2, .inl (cB, 4096, .inl g))]) [0, 1, 2] (by decide) rfl
    have hFc := va_free (wc := [(h0, .inr (0, [.ref a1, .ref a2, .int (nI w), .int (nI h), .int (nI kw), .int (nI kh)])), (a1, .inl (cA, 4096, .inl f)), (a2, .inl (cB, 4096, .inl g))]) hD hS hA [0, 1, 2] rfl
    refine va_callv (va_runV (As := []) (rest := []) ⟨hx, hb, hml, hown, hts⟩ (kX0_transpose l dC dI s.heap.size h0 a1 a2 cA cB f g w h kw kh (by omega) (by omega) (by omega) (by omega)) (cwV 0 hts gX0_turn_X0_transpose rfl rfl rfl (by decide +kernel) ⟨Nat.le_of_ble_eq_true rfl, Nat.le_of_ble_eq_true rfl⟩) ⟨fun a U g mk q => by obtain ⟨q0, q1, qP, qK, qD⟩ := q; exact ⟨q0, q1, qP, va_K.moved (u := U) (U := U.calling g mk a) (Vm.Alike.refl U.vm) qK, qD⟩, va_recv hKc hPc (ci := 0) (q0 := 0) rfl rfl, fun U hU hW => ⟨rfl, by rw [hU], by rw [hU]; exact hPc, va_K.moved hW.alike hKc, hDc.weaken (fun _ _ _ _ => trivial)⟩⟩ rfl rfl hl.1 rfl (lv_room (Nat.le_of_ble_eq_true rfl)) dX0_turn_33 ⟨Nat.le_of_ble_eq_true rfl, Nat.le_of_ble_eq_true rfl⟩) hS (fun q _ h => hFc q h) hFc (fun u33 t H1 locs ht hvm w33 hB hz1 hk1 hS => ?_)
    obtain ⟨hP1, -, hD1⟩ := hB
    rw [ht] at hP1
    try dsimp only at w33
    obtain ⟨hP, hD⟩ := va_join (wr := []) (w1 := [(h0, .inr (0, [.ref a1, .ref a2, .int (nI h), .int (nI w), .int (nI kw), .int (nI kh)])), (a1, .inl (cA, 4096, .inl u33)), (a2, .inl (cB, 4096, .inl g))]) hP hD [0, 1, 2] [] rfl rfl (by decide) (by decide) hk1 hFc hP1 hD1
    generalize H1 = H at hP hS ⊢
    have hP : va_P (dC, dI) vwCm [(h0, .inr (0, [.ref a1, .ref a2, .int (nI h), .int (nI w), .int (nI kw), .int (nI kh)])), (a1, .inl (cA, 4096, .inl u33)), (a2, .inl (cB, 4096, .inl g))] H := hP
    have hD : va_D A [(h0, .inr (0, [.ref a1, .ref a2, .int (nI h), .int (nI w), .int (nI kw), .int (nI kh)])), (a1, .inl (cA, 4096, .inl u33)), (a2, .inl (cB, 4096, .inl g))] := hD
    refine lv_aload_n hx hb dX0_turn_36 rfl (lv_at hl 0 rfl) ?_
    have hPc := hP.sub (ws' := [(h0, .inr (0, [.ref a1, .ref a2, .int (nI h), .int (nI w), .int (nI kw), .int (nI kh)])), (a1, .inl (cA, 4096, .inl u33)), (a2, .inl (cB, 4096, .inl g))]) [0, 1, 2] rfl
    have hKc := hK.sub (tys' := [(cA, .int), (cB, .int)]) [0, 1] rfl
    have hDc := hD.sub (ws' := [(h0, .inr (0, [.ref a1, .ref a2, .int (nI h), .int (nI w), .int (nI kw), .int (nI kh)])), (a1, .inl (cA, 4096, .inl u33)), (a2, .inl (cB, 4096, .inl g))]) [0, 1, 2] (by decide) rfl
    have hFc := va_free (wc := [(h0, .inr (0, [.ref a1, .ref a2, .int (nI h), .int (nI w), .int (nI kw), .int (nI kh)])), (a1, .inl (cA, 4096, .inl u33)), (a2, .inl (cB, 4096, .inl g))]) hD hS hA [0, 1, 2] rfl
    refine va_callv (va_runV (As := []) (rest := []) ⟨hx, hb, hml, hown, hts⟩ (kX0_mirror l dC dI H.size h0 a1 a2 cA cB u33 g h w kw kh (by omega) (by omega) (by omega) (by omega)) (cwV 0 hts gX0_turn_X0_mirror rfl rfl rfl (by decide +kernel) ⟨Nat.le_of_ble_eq_true rfl, Nat.le_of_ble_eq_true rfl⟩) ⟨fun a U g mk q => by obtain ⟨q0, q1, qP, qK, qD⟩ := q; exact ⟨q0, q1, qP, va_K.moved (u := U) (U := U.calling g mk a) (Vm.Alike.refl U.vm) qK, qD⟩, va_recv hKc hPc (ci := 0) (q0 := 0) rfl rfl, fun U hU hW => ⟨rfl, by rw [hU], by rw [hU]; exact hPc, va_K.moved hW.alike hKc, hDc.weaken (fun _ _ _ _ => trivial)⟩⟩ rfl rfl hl.1 rfl (lv_room (Nat.le_of_ble_eq_true rfl)) dX0_turn_37 ⟨Nat.le_of_ble_eq_true rfl, Nat.le_of_ble_eq_true rfl⟩) hS (fun q _ h => hFc q h) hFc (fun u37 t H1 locs ht hvm w37 hB hz1 hk1 hS => ?_)
    obtain ⟨hP1, -, hD1⟩ := hB
    rw [ht] at hP1
    try dsimp only at w37
    obtain ⟨hP, hD⟩ := va_join (wr := []) (w1 := [(h0, .inr (0, [.ref a1, .ref a2, .int (nI h), .int (nI w), .int (nI kw), .int (nI kh)])), (a1, .inl (cA, 4096, .inl u37)), (a2, .inl (cB, 4096, .inl g))]) hP hD [0, 1, 2] [] rfl rfl (by decide) (by decide) hk1 hFc hP1 hD1
    generalize H1 = H at hP hS ⊢
    have hP : va_P (dC, dI) vwCm [(h0, .inr (0, [.ref a1, .ref a2, .int (nI h), .int (nI w), .int (nI kw), .int (nI kh)])), (a1, .inl (cA, 4096, .inl u37)), (a2, .inl (cB, 4096, .inl g))] H := hP
    have hD : va_D A [(h0, .inr (0, [.ref a1, .ref a2, .int (nI h), .int (nI w), .int (nI kw), .int (nI kh)])), (a1, .inl (cA, 4096, .inl u37)), (a2, .inl (cB, 4096, .inl g))] := hD
    refine lv_goto (tgt := 65) hx hb dX0_turn_40 (by decide) ?_
    have hP9 := hP.sub (ws' := [(h0, .inr (0, [.ref a1, .ref a2, .int (nI h), .int (nI w), .int (nI kw), .int (nI kh)])), (a1, .inl (cA, 4096, .inl u37)), (a2, .inl (cB, 4096, .inl g))]) [0, 1, 2] rfl
    have hD9 := hD.sub (ws' := [(h0, .inr (0, [.ref a1, .ref a2, .int (nI h), .int (nI w), .int (nI kw), .int (nI kh)])), (a1, .inl (cA, 4096, .inl u37)), (a2, .inl (cB, 4096, .inl g))]) [0, 1, 2] (by decide) rfl
    exact W.vret hx hb hr (fun t ht hW => ⟨⟨(u37, h, w), rfl, (by rw [e]; exact ⟨rfl, rfl, w37.tr (cf_mi_ag w33)⟩), by rw [ht]; exact hP9, va_K.moved hW.alike hK, hD9⟩, hS.F ht⟩) hS.2.2 dX0_turn_65
  · skip
    refine cf_top (congrArg nI e) ?_
    refine lv_tableIn (off := 38) (tgt := 43) hx hb dX0_turn_5 (by decide +kernel) (by decide +kernel) (by decide +kernel) (by decide) ?_
    refine lv_aload_n hx hb dX0_turn_43 rfl (lv_at hl 0 rfl) ?_
    have hPc := hP.sub (ws' := [(h0, .inr (0, [.ref a1, .ref a2, .int (nI w), .int (nI h), .int (nI kw), .int (nI kh)])), (a1, .inl (cA, 4096, .inl f)), (a2, .inl (cB, 4096, .inl g))]) [0, 1, 2] rfl
    have hKc := hK.sub (tys' := [(cA, .int), (cB, .int)]) [0, 1] rfl
    have hDc := hD.sub (ws' := [(h0, .inr (0, [.ref a1, .ref a2, .int (nI w), .int (nI h), .int (nI kw), .int (nI kh)])), (a1, .inl (cA, 4096, .inl f)), (a2, .inl (cB, 4096, .inl g))]) [0, 1, 2] (by decide) rfl
    have hFc := va_free (wc := [(h0, .inr (0, [.ref a1, .ref a2, .int (nI w), .int (nI h), .int (nI kw), .int (nI kh)])), (a1, .inl (cA, 4096, .inl f)), (a2, .inl (cB, 4096, .inl g))]) hD hS hA [0, 1, 2] rfl
    refine va_callv (va_runV (As := []) (rest := []) ⟨hx, hb, hml, hown, hts⟩ (kX0_mirror l dC dI s.heap.size h0 a1 a2 cA cB f g w h kw kh (by omega) (by omega) (by omega) (by omega)) (cwV 0 hts gX0_turn_X0_mirror rfl rfl rfl (by decide +kernel) ⟨Nat.le_of_ble_eq_true rfl, Nat.le_of_ble_eq_true rfl⟩) ⟨fun a U g mk q => by obtain ⟨q0, q1, qP, qK, qD⟩ := q; exact ⟨q0, q1, qP, va_K.moved (u := U) (U := U.calling g mk a) (Vm.Alike.refl U.vm) qK, qD⟩, va_recv hKc hPc (ci := 0) (q0 := 0) rfl rfl, fun U hU hW => ⟨rfl, by rw [hU], by rw [hU]; exact hPc, va_K.moved hW.alike hKc, hDc.weaken (fun _ _ _ _ => trivial)⟩⟩ rfl rfl hl.1 rfl (lv_room (Nat.le_of_ble_eq_true rfl)) dX0_turn_44 ⟨Nat.le_of_ble_eq_true rfl, Nat.le_of_ble_eq_true rfl⟩) hS (fun q _ h => hFc q h) hFc (fun u44 t H1 locs ht hvm w44 hB hz1 hk1 hS => ?_)
    obtain ⟨hP1, -, hD1⟩ := hB
    rw [ht] at hP1
    try dsimp only at w44
    obtain ⟨hP, hD⟩ := va_join (wr := []) (w1 := [(h0, .inr (0, [.ref a1, .ref a2, .int (nI w), .int (nI h), .int (nI kw), .int (nI kh)])), (a1, .inl (cA, 4096, .inl u44)), (a2, .inl (cB, 4096, .inl g))]) hP hD [0, 1, 2] [] rfl rfl (by decide) (by decide) hk1 hFc hP1 hD1
    generalize H1 = H at hP hS ⊢
    have hP : va_P (dC, dI) vwCm [(h0, .inr (0, [.ref a1, .ref a2, .int (nI w), .int (nI h), .int (nI kw), .int (nI kh)])), (a1, .inl (cA, 4096, .inl u44)), (a2, .inl (cB, 4096, .inl g))] H := hP
    have hD : va_D A [(h0, .inr (0, [.ref a1, .ref a2, .int (nI w), .int (nI h), .int (nI kw), .int (nI kh)])), (a1, .inl (cA, 4096, .inl u44)), (a2, .inl (cB, 4096, .inl g))] := hD
    refine lv_aload_n hx hb dX0_turn_47 rfl (lv_at hl 0 rfl) ?_
    have hPc := hP.sub (ws' := [(h0, .inr (0, [.ref a1, .ref a2, .int (nI w), .int (nI h), .int (nI kw), .int (nI kh)])), (a1, .inl (cA, 4096, .inl u44)), (a2, .inl (cB, 4096, .inl g))]) [0, 1, 2] rfl
    have hKc := hK.sub (tys' := [(cA, .int), (cB, .int)]) [0, 1] rfl
    have hDc := hD.sub (ws' := [(h0, .inr (0, [.ref a1, .ref a2, .int (nI w), .int (nI h), .int (nI kw), .int (nI kh)])), (a1, .inl (cA, 4096, .inl u44)), (a2, .inl (cB, 4096, .inl g))]) [0, 1, 2] (by decide) rfl
    have hFc := va_free (wc := [(h0, .inr (0, [.ref a1, .ref a2, .int (nI w), .int (nI h), .int (nI kw), .int (nI kh)])), (a1, .inl (cA, 4096, .inl u44)), (a2, .inl (cB, 4096, .inl g))]) hD hS hA [0, 1, 2] rfl
    refine va_callv (va_runV (As := []) (rest := []) ⟨hx, hb, hml, hown, hts⟩ (kX0_flip l dC dI H.size h0 a1 a2 cA cB u44 g w h kw kh (by omega) (by omega) (by omega) (by omega)) (cwV 0 hts gX0_turn_X0_flip rfl rfl rfl (by decide +kernel) ⟨Nat.le_of_ble_eq_true rfl, Nat.le_of_ble_eq_true rfl⟩) ⟨fun a U g mk q => by obtain ⟨q0, q1, qP, qK, qD⟩ := q; exact ⟨q0, q1, qP, va_K.moved (u := U) (U := U.calling g mk a) (Vm.Alike.refl U.vm) qK, qD⟩, va_recv hKc hPc (ci := 0) (q0 := 0) rfl rfl, fun U hU hW => ⟨rfl, by rw [hU], by rw [hU]; exact hPc, va_K.moved hW.alike hKc, hDc.weaken (fun _ _ _ _ => trivial)⟩⟩ rfl rfl hl.1 rfl (lv_room (Nat.le_of_ble_eq_true rfl)) dX0_turn_48 ⟨Nat.le_of_ble_eq_true rfl, Nat.le_of_ble_eq_true rfl⟩) hS (fun q _ h => hFc q h) hFc (fun u48 t H1 locs ht hvm w48 hB hz1 hk1 hS => ?_)
    obtain ⟨hP1, -, hD1⟩ := hB
    rw [ht] at hP1
    try dsimp only at w48
    obtain ⟨hP, hD⟩ := va_join (wr := []) (w1 := [(h0, .inr (0, [.ref a1, .ref a2, .int (nI w), .int (nI h), .int (nI kw), .int (nI kh)])), (a1, .inl (cA, 4096, .inl u48)), (a2, .inl (cB, 4096, .inl g))]) hP hD [0, 1, 2] [] rfl rfl (by decide) (by decide) hk1 hFc hP1 hD1
    generalize H1 = H at hP hS ⊢
    have hP : va_P (dC, dI) vwCm [(h0, .inr (0, [.ref a1, .ref a2, .int (nI w), .int (nI h), .int (nI kw), .int (nI kh)])), (a1, .inl (cA, 4096, .inl u48)), (a2, .inl (cB, 4096, .inl g))] H := hP
    have hD : va_D A [(h0, .inr (0, [.ref a1, .ref a2, .int (nI w), .int (nI h), .int (nI kw), .int (nI kh)])), (a1, .inl (cA, 4096, .inl u48)), (a2, .inl (cB, 4096, .inl g))] := hD
    refine lv_goto (tgt := 65) hx hb dX0_turn_51 (by decide) ?_
    have hP9 := hP.sub (ws' := [(h0, .inr (0, [.ref a1, .ref a2, .int (nI w), .int (nI h), .int (nI kw), .int (nI kh)])), (a1, .inl (cA, 4096, .inl u48)), (a2, .inl (cB, 4096, .inl g))]) [0, 1, 2] rfl
    have hD9 := hD.sub (ws' := [(h0, .inr (0, [.ref a1, .ref a2, .int (nI w), .int (nI h), .int (nI kw), .int (nI kh)])), (a1, .inl (cA, 4096, .inl u48)), (a2, .inl (cB, 4096, .inl g))]) [0, 1, 2] (by decide) rfl
    exact W.vret hx hb hr (fun t ht hW => ⟨⟨(u48, w, h), rfl, (by rw [e]; exact ⟨rfl, rfl, w48.tr ((cf_fl_ag w44).tr (cf_tu2 _))⟩), by rw [ht]; exact hP9, va_K.moved hW.alike hK, hD9⟩, hS.F ht⟩) hS.2.2 dX0_turn_65
  · skip
    refine cf_top (congrArg nI e) ?_
    refine lv_tableIn (off := 49) (tgt := 54) hx hb dX0_turn_5 (by decide +kernel) (by decide +kernel) (by decide +kernel) (by decide) ?_
    refine lv_aload_n hx hb dX0_turn_54 rfl (lv_at hl 0 rfl) ?_
    have hPc := hP.sub (ws' := [(h0, .inr (0, [.ref a1, .ref a2, .int (nI w), .int (nI h), .int (nI kw), .int (nI kh)])), (a1, .inl (cA, 4096, .inl f)), (a2, .inl (cB, 4096, .inl g))]) [0, 1, 2] rfl
    have hKc := hK.sub (tys' := [(cA, .int), (cB, .int)]) [0, 1] rfl
    have hDc := hD.sub (ws' := [(h0, .inr (0, [.ref a1, .ref a2, .int (nI w), .int (nI h), .int (nI kw), .int (nI kh)])), (a1, .inl (cA, 4096, .inl f)), (a2, .inl (cB, 4096, .inl g))]) [0, 1, 2] (by decide) rfl
    have hFc := va_free (wc := [(h0, .inr (0, [.ref a1, .ref a2, .int (nI w), .int (nI h), .int (nI kw), .int (nI kh)])), (a1, .inl (cA, 4096, .inl f)), (a2, .inl (cB, 4096, .inl g))]) hD hS hA [0, 1, 2] rfl
    refine va_callv (va_runV (As := []) (rest := []) ⟨hx, hb, hml, hown, hts⟩ (kX0_transpose l dC dI s.heap.size h0 a1 a2 cA cB f g w h kw kh (by omega) (by omega) (by omega) (by omega)) (cwV 0 hts gX0_turn_X0_transpose rfl rfl rfl (by decide +kernel) ⟨Nat.le_of_ble_eq_true rfl, Nat.le_of_ble_eq_true rfl⟩) ⟨fun a U g mk q => by obtain ⟨q0, q1, qP, qK, qD⟩ := q; exact ⟨q0, q1, qP, va_K.moved (u := U) (U := U.calling g mk a) (Vm.Alike.refl U.vm) qK, qD⟩, va_recv hKc hPc (ci := 0) (q0 := 0) rfl rfl, fun U hU hW => ⟨rfl, by rw [hU], by rw [hU]; exact hPc, va_K.moved hW.alike hKc, hDc.weaken (fun _ _ _ _ => trivial)⟩⟩ rfl rfl hl.1 rfl (lv_room (Nat.le_of_ble_eq_true rfl)) dX0_turn_55 ⟨Nat.le_of_ble_eq_true rfl, Nat.le_of_ble_eq_true rfl⟩) hS (fun q _ h => hFc q h) hFc (fun u55 t H1 locs ht hvm w55 hB hz1 hk1 hS => ?_)
    obtain ⟨hP1, -, hD1⟩ := hB
    rw [ht] at hP1
    try dsimp only at w55
    obtain ⟨hP, hD⟩ := va_join (wr := []) (w1 := [(h0, .inr (0, [.ref a1, .ref a2, .int (nI h), .int (nI w), .int (nI kw), .int (nI kh)])), (a1, .inl (cA, 4096, .inl u55)), (a2, .inl (cB, 4096, .inl g))]) hP hD [0, 1, 2] [] rfl rfl (by decide) (by decide) hk1 hFc hP1 hD1
    generalize H1 = H at hP hS ⊢
    have hP : va_P (dC, dI) vwCm [(h0, .inr (0, [.ref a1, .ref a2, .int (nI h), .int (nI w), .int (nI kw), .int (nI kh)])), (a1, .inl (cA, 4096, .inl u55)), (a2, .inl (cB, 4096, .inl g))] H := hP
    have hD : va_D A [(h0, .inr (0, [.ref a1, .ref a2, .int (nI h), .int (nI w), .int (nI kw), .int (nI kh)])), (a1, .inl (cA, 4096, .inl u55)), (a2, .inl (cB, 4096, .inl g))] := hD
    refine lv_aload_n hx hb dX0_turn_58 rfl (lv_at hl 0 rfl) ?_
    have hPc := hP.sub (ws' := [(h0, .inr (0, [.ref a1, .ref a2, .int (nI h), .int (nI w), .int (nI kw), .int (nI kh)])), (a1, .inl (cA, 4096, .inl u55)), (a2, .inl (cB, 4096, .inl g))]) [0, 1, 2] rfl
    have hKc := hK.sub (tys' := [(cA, .int), (cB, .int)]) [0, 1] rfl
    have hDc := hD.sub (ws' := [(h0, .inr (0, [.ref a1, .ref a2, .int (nI h), .int (nI w), .int (nI kw), .int (nI kh)])), (a1, .inl (cA, 4096, .inl u55)), (a2, .inl (cB, 4096, .inl g))]) [0, 1, 2] (by decide) rfl
    have hFc := va_free (wc := [(h0, .inr (0, [.ref a1, .ref a2, .int (nI h), .int (nI w), .int (nI kw), .int (nI kh)])), (a1, .inl (cA, 4096, .inl u55)), (a2, .inl (cB, 4096, .inl g))]) hD hS hA [0, 1, 2] rfl
    refine va_callv (va_runV (As := []) (rest := []) ⟨hx, hb, hml, hown, hts⟩ (kX0_flip l dC dI H.size h0 a1 a2 cA cB u55 g h w kw kh (by omega) (by omega) (by omega) (by omega)) (cwV 0 hts gX0_turn_X0_flip rfl rfl rfl (by decide +kernel) ⟨Nat.le_of_ble_eq_true rfl, Nat.le_of_ble_eq_true rfl⟩) ⟨fun a U g mk q => by obtain ⟨q0, q1, qP, qK, qD⟩ := q; exact ⟨q0, q1, qP, va_K.moved (u := U) (U := U.calling g mk a) (Vm.Alike.refl U.vm) qK, qD⟩, va_recv hKc hPc (ci := 0) (q0 := 0) rfl rfl, fun U hU hW => ⟨rfl, by rw [hU], by rw [hU]; exact hPc, va_K.moved hW.alike hKc, hDc.weaken (fun _ _ _ _ => trivial)⟩⟩ rfl rfl hl.1 rfl (lv_room (Nat.le_of_ble_eq_true rfl)) dX0_turn_59 ⟨Nat.le_of_ble_eq_true rfl, Nat.le_of_ble_eq_true rfl⟩) hS (fun q _ h => hFc q h) hFc (fun u59 t H1 locs ht hvm w59 hB hz1 hk1 hS => ?_)
    obtain ⟨hP1, -, hD1⟩ := hB
    rw [ht] at hP1
    try dsimp only at w59
    obtain ⟨hP, hD⟩ := va_join (wr := []) (w1 := [(h0, .inr (0, [.ref a1, .ref a2, .int (nI h), .int (nI w), .int (nI kw), .int (nI kh)])), (a1, .inl (cA, 4096, .inl u59)), (a2, .inl (cB, 4096, .inl g))]) hP hD [0, 1, 2] [] rfl rfl (by decide) (by decide) hk1 hFc hP1 hD1
    generalize H1 = H at hP hS ⊢
    have hP : va_P (dC, dI) vwCm [(h0, .inr (0, [.ref a1, .ref a2, .int (nI h), .int (nI w), .int (nI kw), .int (nI kh)])), (a1, .inl (cA, 4096, .inl u59)), (a2, .inl (cB, 4096, .inl g))] H := hP
    have hD : va_D A [(h0, .inr (0, [.ref a1, .ref a2, .int (nI h), .int (nI w), .int (nI kw), .int (nI kh)])), (a1, .inl (cA, 4096, .inl u59)), (a2, .inl (cB, 4096, .inl g))] := hD
    refine lv_goto (tgt := 65) hx hb dX0_turn_62 (by decide) ?_
    have hP9 := hP.sub (ws' := [(h0, .inr (0, [.ref a1, .ref a2, .int (nI h), .int (nI w), .int (nI kw), .int (nI kh)])), (a1, .inl (cA, 4096, .inl u59)), (a2, .inl (cB, 4096, .inl g))]) [0, 1, 2] rfl
    have hD9 := hD.sub (ws' := [(h0, .inr (0, [.ref a1, .ref a2, .int (nI h), .int (nI w), .int (nI kw), .int (nI kh)])), (a1, .inl (cA, 4096, .inl u59)), (a2, .inl (cB, 4096, .inl g))]) [0, 1, 2] (by decide) rfl
    exact W.vret hx hb hr (fun t ht hW => ⟨⟨(u59, h, w), rfl, (by rw [e]; exact ⟨rfl, rfl, w59.tr ((cf_fl_ag w55).tr (cf_tu3 _))⟩), by rw [ht]; exact hP9, va_K.moved hW.alike hK, hD9⟩, hS.F ht⟩) hS.2.2 dX0_turn_65
set_option maxHeartbeats 4000000 in
set_option maxRecDepth 100000 in
/-- X0_look -/
theorem kX0_look (l : Launch) (dC : Nat → ClassId) (dI : Nat → Nat → Nat) (h0 a1 a2 : Nat) (cA cB : ClassId) (f g : Nat → Int32) (w h kw kh : Nat) (i : Int32) (hw : w ≤ 8) (hh : h ≤ 8) : Met l yX0_look wsX0_look ({ frames := 2, cells := 0, slots := 0, locals := 45 }) (va_Pc [.ref h0, .int i] (fun U => va_P (dC, dI) vwCm [(h0, .inr (0, [.ref a1, .ref a2, .int (nI w), .int (nI h), .int (nI kw), .int (nI kh)])), (a1, .inl (cA, 4096, .inl f)), (a2, .inl (cB, 4096, .inl g))] U.heap ∧ va_K (dC, dI) vwCm [(cA, .int), (cB, .int)] U)) (vp_Si (fun r : Int32 => r = cf_lk w h kw kh (cf_V f) i)) 0 0 (fun _ => False) := by
  refine Met.ofW (cc := cX0_look) (maxL := 2) (ret := (some .int)) (by decide) rfl ?_
  intro p e s m args below meth c s₁ B hml hv
  obtain ⟨rfl, hP, hK⟩ := hv
  have hx := B.exec
  have hb := B.bytes
  have hr := B.returns
  have hts := atoms_spec (ws := wsX0_look) B.pre
  have hown : s.vm.findClass RX0 = some m.cls := findClass_of_methodNamed B.named
  have hlocks := B.notSynchronized
  have hl := lv_entry ([.ref h0, .int i]) (n := 2) (Nat.le_of_ble_eq_true rfl)
  rw [lg_entry_eq]
  generalize (lg_sl ([.ref h0, .int i]) ++ List.replicate (2 - (lg_sl ([.ref h0, .int i])).length) Slot.unset).toArray = ls at hl ⊢
  have hl : lv_has ls 2 [(0, .ref h0), (1, .int i)] := hl
  refine lv_iload_n hx hb dX0_look_0 rfl (lv_at hl 1 rfl) ?_
  by_cases e0 : i = nI 0
  · skip
    refine cf_top e0 ?_
    refine lv_tableIn (off := 39) (tgt := 40) hx hb dX0_look_1 (by decide +kernel) (by decide +kernel) (by decide +kernel) (by decide) ?_
    refine lv_aload_n hx hb dX0_look_40 rfl (lv_at hl 0 rfl) ?_
    refine va_get (D := (dC, dI)) (ci := 0) (v := .int (nI w)) (C := RX0) (T := TX0) (N := 6) hx hb hts (by decide +kernel) hown hK hP 0 rfl rfl 2 (by decide) (hts (.fieldLink RX0 13 "CoefTurns" "width" "I") (by decide +kernel)) (fun _ h9 => h9) rfl dX0_look_41 ?_
    exact W.iret hx hb hr (fun t ht hW => ⟨_, rfl, (by unfold cf_lk; rw [if_pos e0]), ht⟩) (fun q h => by cases h) dX0_look_44
  by_cases e1 : i = nI 1
  · skip
    refine cf_top e1 ?_
    refine lv_tableIn (off := 44) (tgt := 45) hx hb dX0_look_1 (by decide +kernel) (by decide +kernel) (by decide +kernel) (by decide) ?_
    refine lv_aload_n hx hb dX0_look_45 rfl (lv_at hl 0 rfl) ?_
    refine va_get (D := (dC, dI)) (ci := 0) (v := .int (nI h)) (C := RX0) (T := TX0) (N := 6) hx hb hts (by decide +kernel) hown hK hP 0 rfl rfl 3 (by decide) (hts (.fieldLink RX0 17 "CoefTurns" "height" "I") (by decide +kernel)) (fun _ h9 => h9) rfl dX0_look_46 ?_
    exact W.iret hx hb hr (fun t ht hW => ⟨_, rfl, (by unfold cf_lk; rw [if_neg e0, if_pos e1]), ht⟩) (fun q h => by cases h) dX0_look_49
  by_cases e2 : i = nI 2
  · skip
    refine cf_top e2 ?_
    refine lv_tableIn (off := 49) (tgt := 50) hx hb dX0_look_1 (by decide +kernel) (by decide +kernel) (by decide +kernel) (by decide) ?_
    refine lv_aload_n hx hb dX0_look_50 rfl (lv_at hl 0 rfl) ?_
    have hPc := hP.sub (ws' := [(h0, .inr (0, [.ref a1, .ref a2, .int (nI w), .int (nI h), .int (nI kw), .int (nI kh)])), (a1, .inl (cA, 4096, .inl f)), (a2, .inl (cB, 4096, .inl g))]) [0, 1, 2] rfl
    have hKc := hK.sub (tys' := [(cA, .int), (cB, .int)]) [0, 1] rfl
    refine vp_callSi (W.runV (As := []) (rest := []) ⟨hx, hb, hml, hown, hts⟩ (kX0_countNotZero l dC dI h0 a1 a2 cA cB f g w h kw kh  hw hh) (cwV 0 hts gX0_look_X0_countNotZero rfl rfl rfl (by decide +kernel) ⟨Nat.le_of_ble_eq_true rfl, Nat.le_of_ble_eq_true rfl⟩) ⟨fun a U g mk q => by obtain ⟨q0, qP, qK⟩ := q; exact ⟨q0, qP, va_K.moved (u := U) (U := U.calling g mk a) (Vm.Alike.refl U.vm) qK⟩, va_recv hKc hPc (ci := 0) (q0 := 0) rfl rfl, fun U hU hW => ⟨rfl, by rw [hU]; exact hPc, va_K.moved hW.alike hKc⟩⟩ rfl rfl hl.1 rfl (lv_room (Nat.le_of_ble_eq_true rfl)) dX0_look_51 ⟨Nat.le_of_ble_eq_true rfl, Nat.le_of_ble_eq_true rfl⟩) (fun r51 w51 => ?_)
    exact W.iret hx hb hr (fun t ht hW => ⟨_, rfl, (by unfold cf_lk; rw [if_neg e0, if_neg e1, if_pos e2, w51]), ht⟩) (fun q h => by cases h) dX0_look_54
  by_cases e3 : i = nI 3
  · skip
    refine cf_top e3 ?_
    refine lv_tableIn (off := 54) (tgt := 55) hx hb dX0_look_1 (by decide +kernel) (by decide +kernel) (by decide +kernel) (by decide) ?_
    refine lv_aload_n hx hb dX0_look_55 rfl (lv_at hl 0 rfl) ?_
    have hPc := hP.sub (ws' := [(h0, .inr (0, [.ref a1, .ref a2, .int (nI w), .int (nI h), .int (nI kw), .int (nI kh)])), (a1, .inl (cA, 4096, .inl f)), (a2, .inl (cB, 4096, .inl g))]) [0, 1, 2] rfl
    have hKc := hK.sub (tys' := [(cA, .int), (cB, .int)]) [0, 1] rfl
    refine vp_callSi (W.runV (As := []) (rest := []) ⟨hx, hb, hml, hown, hts⟩ (kX0_greatestSize l dC dI h0 a1 a2 cA cB f g w h kw kh  hw hh) (cwV 0 hts gX0_look_X0_greatestSize rfl rfl rfl (by decide +kernel) ⟨Nat.le_of_ble_eq_true rfl, Nat.le_of_ble_eq_true rfl⟩) ⟨fun a U g mk q => by obtain ⟨q0, qP, qK⟩ := q; exact ⟨q0, qP, va_K.moved (u := U) (U := U.calling g mk a) (Vm.Alike.refl U.vm) qK⟩, va_recv hKc hPc (ci := 0) (q0 := 0) rfl rfl, fun U hU hW => ⟨rfl, by rw [hU]; exact hPc, va_K.moved hW.alike hKc⟩⟩ rfl rfl hl.1 rfl (lv_room (Nat.le_of_ble_eq_true rfl)) dX0_look_56 ⟨Nat.le_of_ble_eq_true rfl, Nat.le_of_ble_eq_true rfl⟩) (fun r56 w56 => ?_)
    exact W.iret hx hb hr (fun t ht hW => ⟨_, rfl, (by unfold cf_lk; rw [if_neg e0, if_neg e1, if_neg e2, if_pos e3, w56]), ht⟩) (fun q h => by cases h) dX0_look_59
  by_cases e4 : i = nI 4
  · skip
    refine cf_top e4 ?_
    refine lv_tableIn (off := 59) (tgt := 60) hx hb dX0_look_1 (by decide +kernel) (by decide +kernel) (by decide +kernel) (by decide) ?_
    refine lv_aload_n hx hb dX0_look_60 rfl (lv_at hl 0 rfl) ?_
    refine va_get (D := (dC, dI)) (ci := 0) (v := .int (nI kw)) (C := RX0) (T := TX0) (N := 6) hx hb hts (by decide +kernel) hown hK hP 0 rfl rfl 4 (by decide) (hts (.fieldLink RX0 20 "CoefTurns" "keptWidth" "I") (by decide +kernel)) (fun _ h9 => h9) rfl dX0_look_61 ?_
    exact W.iret hx hb hr (fun t ht hW => ⟨_, rfl, (by unfold cf_lk; rw [if_neg e0, if_neg e1, if_neg e2, if_neg e3, if_pos e4]), ht⟩) (fun q h => by cases h) dX0_look_64
  by_cases e5 : i = nI 5
  · skip
    refine cf_top e5 ?_
    refine lv_tableIn (off := 64) (tgt := 65) hx hb dX0_look_1 (by decide +kernel) (by decide +kernel) (by decide +kernel) (by decide) ?_
    refine lv_aload_n hx hb dX0_look_65 rfl (lv_at hl 0 rfl) ?_
    refine va_get (D := (dC, dI)) (ci := 0) (v := .int (nI kh)) (C := RX0) (T := TX0) (N := 6) hx hb hts (by decide +kernel) hown hK hP 0 rfl rfl 5 (by decide) (hts (.fieldLink RX0 23 "CoefTurns" "keptHeight" "I") (by decide +kernel)) (fun _ h9 => h9) rfl dX0_look_66 ?_
    exact W.iret hx hb hr (fun t ht hW => ⟨_, rfl, (by unfold cf_lk; rw [if_neg e0, if_neg e1, if_neg e2, if_neg e3, if_neg e4, if_pos e5]), ht⟩) (fun q h => by cases h) dX0_look_69
  have f0 := lv_neT e0 (nI_toInt (n := 0) (by omega))
  have f1 := lv_neT e1 (nI_toInt (n := 1) (by omega))
  have f2 := lv_neT e2 (nI_toInt (n := 2) (by omega))
  have f3 := lv_neT e3 (nI_toInt (n := 3) (by omega))
  have f4 := lv_neT e4 (nI_toInt (n := 4) (by omega))
  have f5 := lv_neT e5 (nI_toInt (n := 5) (by omega))
  refine lv_tableOut (tgt := 70) hx hb dX0_look_1 (by omega) (by decide) ?_
  refine lv_iconst (v := (-1)) hx hb dX0_look_70 (by decide +kernel) ?_
  exact W.iret hx hb hr (fun t ht hW => ⟨_, rfl, (by unfold cf_lk; rw [if_neg e0, if_neg e1, if_neg e2, if_neg e3, if_neg e4, if_neg e5]), ht⟩) (fun q h => by cases h) dX0_look_71
set_option maxHeartbeats 4000000 in
set_option maxRecDepth 100000 in
/-- X0_crop -/
theorem kX0_crop (l : Launch) (dC : Nat → ClassId) (dI : Nat → Nat → Nat) (sz : Nat) (h0 a1 a2 : Nat) (cA cB : ClassId) (f g : Nat → Int32) (w h kw kh : Nat) (x y a b : Int32) (hw : w ≤ 8) (hh : h ≤ 8) : Met l yX0_crop wsX0_crop ({ frames := 1, cells := 0, slots := 0, locals := 64 }) (va_Pc [.ref h0, .int x, .int y, .int a, .int b] (fun U => U.heap.size = sz ∧ va_P (dC, dI) vwCm [(h0, .inr (0, [.ref a1, .ref a2, .int (nI w), .int (nI h), .int (nI kw), .int (nI kh)])), (a1, .inl (cA, 4096, .inl f)), (a2, .inl (cB, 4096, .inl g))] U.heap ∧ va_K (dC, dI) vwCm [(cA, .int), (cB, .int)] U ∧ va_D (fun _ => True) [(h0, .inr (0, [.ref a1, .ref a2, .int (nI w), .int (nI h), .int (nI kw), .int (nI kh)])), (a1, .inl (cA, 4096, .inl f)), (a2, .inl (cB, 4096, .inl g))])) (va_Qi (fun (r : Int32) (u : (Nat → Int32) × Nat × Nat) => (r = nI 0 ∧ (¬ ∃ X Y A B, cf_ok w h x y a b X Y A B) ∧ u.1 = f ∧ u.2.1 = w ∧ u.2.2 = h) ∨ (r = nI 1 ∧ ∃ X Y, cf_ok w h x y a b X Y u.2.1 u.2.2 ∧ cf_Ag u.2.1 u.2.2 (cf_V u.1) (cf_cr X Y (cf_V f)))) (fun (u : (Nat → Int32) × Nat × Nat) (t : State) => va_P (dC, dI) vwCm [(h0, .inr (0, [.ref a1, .ref a2, .int (nI u.2.1), .int (nI u.2.2), .int (nI kw), .int (nI kh)])), (a1, .inl (cA, 4096, .inl u.1)), (a2, .inl (cB, 4096, .inl g))] t.heap ∧ va_K (dC, dI) vwCm [(cA, .int), (cB, .int)] t ∧ va_D (va_A [(h0, .inr (0, [.ref a1, .ref a2, .int (nI w), .int (nI h), .int (nI kw), .int (nI kh)])), (a1, .inl (cA, 4096, .inl f)), (a2, .inl (cB, 4096, .inl g))] sz) [(h0, .inr (0, [.ref a1, .ref a2, .int (nI u.2.1), .int (nI u.2.2), .int (nI kw), .int (nI kh)])), (a1, .inl (cA, 4096, .inl u.1)), (a2, .inl (cB, 4096, .inl g))]) (va_A [(h0, .inr (0, [.ref a1, .ref a2, .int (nI w), .int (nI h), .int (nI kw), .int (nI kh)])), (a1, .inl (cA, 4096, .inl f)), (a2, .inl (cB, 4096, .inl g))] sz)) 0 0 (va_A [(h0, .inr (0, [.ref a1, .ref a2, .int (nI w), .int (nI h), .int (nI kw), .int (nI kh)])), (a1, .inl (cA, 4096, .inl f)), (a2, .inl (cB, 4096, .inl g))] sz) := by
  refine Met.ofW (cc := cX0_crop) (maxL := 6) (ret := (some .boolean)) (by decide) rfl ?_
  intro p e s m args below meth c s₁ B hml hv
  obtain ⟨rfl, hsz, hP, hK, hD0⟩ := hv
  have hx := B.exec
  have hb := B.bytes
  have hr := B.returns
  have hts := atoms_spec (ws := wsX0_crop) B.pre
  have hown : s.vm.findClass RX0 = some m.cls := findClass_of_methodNamed B.named
  have hlocks := B.notSynchronized
  subst hsz
  have hD := hD0.self (sz := s.heap.size)
  generalize hAe : va_A [(h0, .inr (0, [.ref a1, .ref a2, .int (nI w), .int (nI h), .int (nI kw), .int (nI kh)])), (a1, .inl (cA, 4096, .inl f)), (a2, .inl (cB, 4096, .inl g))] s.heap.size = A at hD ⊢
  have hA : ∀ q : Nat, s.heap.size ≤ q → A q := fun q h => by rw [← hAe]; exact Or.inr h
  have hS : va_S A s.heap s.heap [] := va_S.rf
  have hP : va_P (dC, dI) vwCm [(h0, .inr (0, [.ref a1, .ref a2, .int (nI w), .int (nI h), .int (nI kw), .int (nI kh)])), (a1, .inl (cA, 4096, .inl f)), (a2, .inl (cB, 4096, .inl g))] s.heap := hP
  have hl := lv_entry ([.ref h0, .int x, .int y, .int a, .int b]) (n := 6) (Nat.le_of_ble_eq_true rfl)
  rw [lg_entry_eq]
  generalize (lg_sl ([.ref h0, .int x, .int y, .int a, .int b]) ++ List.replicate (6 - (lg_sl ([.ref h0, .int x, .int y, .int a, .int b])).length) Slot.unset).toArray = ls at hl ⊢
  have hl : lv_has ls 6 [(0, .ref h0), (1, .int x), (2, .int y), (3, .int a), (4, .int b)] := hl
  refine lv_iload_n hx hb dX0_crop_0 rfl (lv_at hl 3 rfl) ?_
  refine lv_iconst (v := nI 1) hx hb dX0_crop_1 (by decide +kernel) ?_
  refine lv_icmp_lt (tgt := 19) hx hb dX0_crop_2 (by decide) (fun c2 => ?_) (fun c2 => ?_)
  · skip
    refine lv_iconst (v := nI 0) hx hb dX0_crop_19 (by decide +kernel) ?_
    have hP9 := hP.sub (ws' := [(h0, .inr (0, [.ref a1, .ref a2, .int (nI w), .int (nI h), .int (nI kw), .int (nI kh)])), (a1, .inl (cA, 4096, .inl f)), (a2, .inl (cB, 4096, .inl g))]) [0, 1, 2] rfl
    have hD9 := hD.sub (ws' := [(h0, .inr (0, [.ref a1, .ref a2, .int (nI w), .int (nI h), .int (nI kw), .int (nI kh)])), (a1, .inl (cA, 4096, .inl f)), (a2, .inl (cB, 4096, .inl g))]) [0, 1, 2] (by decide) rfl
    exact W.zret (ty := .boolean) hx hb hr rfl (fun t ht hW => ⟨⟨_, (f, w, h), rfl, (Or.inl ⟨rfl, (by first | exact cf_no1 hw hh (Or.inr (Or.inr (Or.inl c2))) | exact cf_no1 hw hh (Or.inr (Or.inr (Or.inr c8))) | exact cf_no1 hw hh (Or.inl c12) | exact cf_no1 hw hh (Or.inr (Or.inl (cf_nle c16)))), rfl, rfl, rfl⟩), by rw [ht]; exact hP9, va_K.moved hW.alike hK, hD9⟩, hS.F ht⟩) hS.2.2 dX0_crop_20
  · skip
    refine lv_iload hx hb dX0_crop_5 (lv_at hl 4 rfl) ?_
    refine lv_iconst (v := nI 1) hx hb dX0_crop_7 (by decide +kernel) ?_
    refine lv_icmp_lt (tgt := 19) hx hb dX0_crop_8 (by decide) (fun c8 => ?_) (fun c8 => ?_)
    · skip
      refine lv_iconst (v := nI 0) hx hb dX0_crop_19 (by decide +kernel) ?_
      have hP9 := hP.sub (ws' := [(h0, .inr (0, [.ref a1, .ref a2, .int (nI w), .int (nI h), .int (nI kw), .int (nI kh)])), (a1, .inl (cA, 4096, .inl f)), (a2, .inl (cB, 4096, .inl g))]) [0, 1, 2] rfl
      have hD9 := hD.sub (ws' := [(h0, .inr (0, [.ref a1, .ref a2, .int (nI w), .int (nI h), .int (nI kw), .int (nI kh)])), (a1, .inl (cA, 4096, .inl f)), (a2, .inl (cB, 4096, .inl g))]) [0, 1, 2] (by decide) rfl
      exact W.zret (ty := .boolean) hx hb hr rfl (fun t ht hW => ⟨⟨_, (f, w, h), rfl, (Or.inl ⟨rfl, (by first | exact cf_no1 hw hh (Or.inr (Or.inr (Or.inl c2))) | exact cf_no1 hw hh (Or.inr (Or.inr (Or.inr c8))) | exact cf_no1 hw hh (Or.inl c12) | exact cf_no1 hw hh (Or.inr (Or.inl (cf_nle c16)))), rfl, rfl, rfl⟩), by rw [ht]; exact hP9, va_K.moved hW.alike hK, hD9⟩, hS.F ht⟩) hS.2.2 dX0_crop_20
    · skip
      refine lv_iload_n hx hb dX0_crop_11 rfl (lv_at hl 1 rfl) ?_
      refine lv_if_lt (tgt := 19) hx hb dX0_crop_12 (by decide) (fun c12 => ?_) (fun c12 => ?_)
      · skip
        refine lv_iconst (v := nI 0) hx hb dX0_crop_19 (by decide +kernel) ?_
        have hP9 := hP.sub (ws' := [(h0, .inr (0, [.ref a1, .ref a2, .int (nI w), .int (nI h), .int (nI kw), .int (nI kh)])), (a1, .inl (cA, 4096, .inl f)), (a2, .inl (cB, 4096, .inl g))]) [0, 1, 2] rfl
        have hD9 := hD.sub (ws' := [(h0, .inr (0, [.ref a1, .ref a2, .int (nI w), .int (nI h), .int (nI kw), .int (nI kh)])), (a1, .inl (cA, 4096, .inl f)), (a2, .inl (cB, 4096, .inl g))]) [0, 1, 2] (by decide) rfl
        exact W.zret (ty := .boolean) hx hb hr rfl (fun t ht hW => ⟨⟨_, (f, w, h), rfl, (Or.inl ⟨rfl, (by first | exact cf_no1 hw hh (Or.inr (Or.inr (Or.inl c2))) | exact cf_no1 hw hh (Or.inr (Or.inr (Or.inr c8))) | exact cf_no1 hw hh (Or.inl c12) | exact cf_no1 hw hh (Or.inr (Or.inl (cf_nle c16)))), rfl, rfl, rfl⟩), by rw [ht]; exact hP9, va_K.moved hW.alike hK, hD9⟩, hS.F ht⟩) hS.2.2 dX0_crop_20
      · skip
        refine lv_iload_n hx hb dX0_crop_15 rfl (lv_at hl 2 rfl) ?_
        refine lv_if_ge (tgt := 21) hx hb dX0_crop_16 (by decide) (fun c16 => ?_) (fun c16 => ?_)
        · skip
          obtain ⟨X, eX, hX⟩ := cf_nat c12
          obtain ⟨Y, eY, hY⟩ := cf_nat (cf_nlt c16)
          obtain ⟨A9, eA, hA9, hA1⟩ := cf_pos c2
          obtain ⟨B9, eB, hB9, hB1⟩ := cf_pos c8
          refine lv_iload_n hx hb dX0_crop_21 rfl (lv_at hl 3 rfl) ?_
          refine cf_top eA ?_
          refine lv_aload_n hx hb dX0_crop_22 rfl (lv_at hl 0 rfl) ?_
          refine va_get (D := (dC, dI)) (ci := 0) (v := .int (nI w)) (C := RX0) (T := TX0) (N := 6) hx hb hts (by decide +kernel) hown hK hP 0 rfl rfl 2 (by decide) (hts (.fieldLink RX0 13 "CoefTurns" "width" "I") (by decide +kernel)) (fun _ h9 => h9) rfl dX0_crop_23 ?_
          refine lv_iload_n hx hb dX0_crop_26 rfl (lv_at hl 1 rfl) ?_
          refine cf_top eX ?_
          refine lv_isub hx hb dX0_crop_27 ?_
          refine lv_icmp_gt (tgt := 42) hx hb dX0_crop_28 (by decide) (fun c28 => ?_) (fun c28 => ?_)
          · skip
            have g4 := (cf_crop_c hw hX hA9).mp c28
            refine lv_iconst (v := nI 0) hx hb dX0_crop_42 (by decide +kernel) ?_
            have hP9 := hP.sub (ws' := [(h0, .inr (0, [.ref a1, .ref a2, .int (nI w), .int (nI h), .int (nI kw), .int (nI kh)])), (a1, .inl (cA, 4096, .inl f)), (a2, .inl (cB, 4096, .inl g))]) [0, 1, 2] rfl
            have hD9 := hD.sub (ws' := [(h0, .inr (0, [.ref a1, .ref a2, .int (nI w), .int (nI h), .int (nI kw), .int (nI kh)])), (a1, .inl (cA, 4096, .inl f)), (a2, .inl (cB, 4096, .inl g))]) [0, 1, 2] (by decide) rfl
            exact W.zret (ty := .boolean) hx hb hr rfl (fun t ht hW => ⟨⟨_, (f, w, h), rfl, (Or.inl ⟨rfl, (by rw [eX, eY, eA, eB]; exact cf_no2 hX hY hA9 hB9 hw hh (by omega)), rfl, rfl, rfl⟩), by rw [ht]; exact hP9, va_K.moved hW.alike hK, hD9⟩, hS.F ht⟩) hS.2.2 dX0_crop_43
          · skip
            have g4 : X + A9 ≤ w := by have := mt (cf_crop_c hw hX hA9).mpr c28; omega
            refine lv_iload hx hb dX0_crop_31 (lv_at hl 4 rfl) ?_
            refine cf_top eB ?_
            refine lv_aload_n hx hb dX0_crop_33 rfl (lv_at hl 0 rfl) ?_
            refine va_get (D := (dC, dI)) (ci := 0) (v := .int (nI h)) (C := RX0) (T := TX0) (N := 6) hx hb hts (by decide +kernel) hown hK hP 0 rfl rfl 3 (by decide) (hts (.fieldLink RX0 17 "CoefTurns" "height" "I") (by decide +kernel)) (fun _ h9 => h9) rfl dX0_crop_34 ?_
            refine lv_iload_n hx hb dX0_crop_37 rfl (lv_at hl 2 rfl) ?_
            refine cf_top eY ?_
            refine lv_isub hx hb dX0_crop_38 ?_
            refine lv_icmp_le (tgt := 44) hx hb dX0_crop_39 (by decide) (fun c39 => ?_) (fun c39 => ?_)
            · skip
              have g5 : Y + B9 ≤ h := by have := mt (cf_crop_c hh hY hB9).mpr (cf_nlt c39); omega
              refine lv_iconst (v := nI 0) hx hb dX0_crop_44 (by decide +kernel) ?_
              refine lv_istore (lv' := [(5, .int (nI 0)), (0, .ref h0), (1, .int x), (2, .int y), (3, .int a), (4, .int b)]) hx hb dX0_crop_45 hl (by decide) rfl (fun ls hl => ?_)
              have lp47 : ∀ (n47 : Nat) (y0 : Nat) (fc : Nat → Int32), y0 ≤ B9 → B9 < y0 + n47 → cf_cw X Y A9 y0 f fc → ∀ (H : Heap) (locs : List Loc), va_P (dC, dI) vwCm [(h0, .inr (0, [.ref a1, .ref a2, .int (nI w), .int (nI h), .int (nI kw), .int (nI kh)])), (a1, .inl (cA, 4096, .inl fc)), (a2, .inl (cB, 4096, .inl g))] H → va_D A [(h0, .inr (0, [.ref a1, .ref a2, .int (nI w), .int (nI h), .int (nI kw), .int (nI kh)])), (a1, .inl (cA, 4096, .inl fc)), (a2, .inl (cB, 4096, .inl g))] → va_S A s.heap H locs → ∀ (ls : Array Slot), lv_has ls 6 [(0, .ref h0), (1, .int x), (2, .int y), (3, .int a), (4, .int b), (5, .int (nI y0))] → W p l e (headSpec wsX0_crop ({ frames := 1, cells := 0, slots := 0, locals := 64 })).room s m ([.ref h0, .int x, .int y, .int a, .int b] : List Value).toArray below meth c H locs 0 0 (MQ below (va_Qi (fun (r : Int32) (u : (Nat → Int32) × Nat × Nat) => (r = nI 0 ∧ (¬ ∃ X Y A B, cf_ok w h x y a b X Y A B) ∧ u.1 = f ∧ u.2.1 = w ∧ u.2.2 = h) ∨ (r = nI 1 ∧ ∃ X Y, cf_ok w h x y a b X Y u.2.1 u.2.2 ∧ cf_Ag u.2.1 u.2.2 (cf_V u.1) (cf_cr X Y (cf_V f)))) (fun (u : (Nat → Int32) × Nat × Nat) (t : State) => va_P (dC, dI) vwCm [(h0, .inr (0, [.ref a1, .ref a2, .int (nI u.2.1), .int (nI u.2.2), .int (nI kw), .int (nI kh)])), (a1, .inl (cA, 4096, .inl u.1)), (a2, .inl (cB, 4096, .inl g))] t.heap ∧ va_K (dC, dI) vwCm [(cA, .int), (cB, .int)] t ∧ va_D A [(h0, .inr (0, [.ref a1, .ref a2, .int (nI u.2.1), .int (nI u.2.2), .int (nI kw), .int (nI kh)])), (a1, .inl (cA, 4096, .inl u.1)), (a2, .inl (cB, 4096, .inl g))]) A) ([.ref h0, .int x, .int y, .int a, .int b] : List Value).toArray s 0 0 A) (F0 m 47 ls []) := by
                intro n47
                induction n47 with
                | zero => intro y0 fc h1 h2; exact absurd h2 (by omega)
                | succ n47 ih47 =>
                  intro y0 fc hk47 hn47 hI H locs hP hD hS ls hl
                  refine lv_iload hx hb dX0_crop_47 (lv_at hl 5 rfl) ?_
                  refine lv_iload hx hb dX0_crop_49 (lv_at hl 4 rfl) ?_
                  refine cf_top eB ?_
                  refine lv_icmp_ge (tgt := 89) hx hb dX0_crop_51 (by decide) (fun c51 => ?_) (fun c51 => ?_)
                  · skip
                    have c51 := (nI_leI (a := B9) (b := y0) (by omega) (by omega)).mp c51
                    refine lv_aload_n hx hb dX0_crop_89 rfl (lv_at hl 0 rfl) ?_
                    refine lv_iload_n hx hb dX0_crop_90 rfl (lv_at hl 3 rfl) ?_
                    refine cf_top eA ?_
                    refine va_put (D := (dC, dI)) (ci := 0) (v := .int (nI A9)) (ty := .int) (C := RX0) (T := TX0) (N := 6) hx hb hts (by decide +kernel) tyX0 tyX0_ok nmX0 hown hK hP hD hS 0 rfl rfl 2 (by decide) (hts (.fieldLink RX0 13 "CoefTurns" "width" "I") (by decide +kernel)) (fun _ h9 => h9) rfl (by decide +kernel) rfl rfl (Nat.le_of_ble_eq_true rfl) dX0_crop_91 (fun H locs hP hD hS => ?_)
                    have hP : va_P (dC, dI) vwCm [(h0, .inr (0, [.ref a1, .ref a2, .int (nI A9), .int (nI h), .int (nI kw), .int (nI kh)])), (a1, .inl (cA, 4096, .inl fc)), (a2, .inl (cB, 4096, .inl g))] H := hP
                    have hD : va_D A [(h0, .inr (0, [.ref a1, .ref a2, .int (nI A9), .int (nI h), .int (nI kw), .int (nI kh)])), (a1, .inl (cA, 4096, .inl fc)), (a2, .inl (cB, 4096, .inl g))] := hD
                    refine lv_aload_n hx hb dX0_crop_94 rfl (lv_at hl 0 rfl) ?_
                    refine lv_iload hx hb dX0_crop_95 (lv_at hl 4 rfl) ?_
                    refine cf_top eB ?_
                    refine va_put (D := (dC, dI)) (ci := 0) (v := .int (nI B9)) (ty := .int) (C := RX0) (T := TX0) (N := 6) hx hb hts (by decide +kernel) tyX0 tyX0_ok nmX0 hown hK hP hD hS 0 rfl rfl 3 (by decide) (hts (.fieldLink RX0 17 "CoefTurns" "height" "I") (by decide +kernel)) (fun _ h9 => h9) rfl (by decide +kernel) rfl rfl (Nat.le_of_ble_eq_true rfl) dX0_crop_97 (fun H locs hP hD hS => ?_)
                    have hP : va_P (dC, dI) vwCm [(h0, .inr (0, [.ref a1, .ref a2, .int (nI A9), .int (nI B9), .int (nI kw), .int (nI kh)])), (a1, .inl (cA, 4096, .inl fc)), (a2, .inl (cB, 4096, .inl g))] H := hP
                    have hD : va_D A [(h0, .inr (0, [.ref a1, .ref a2, .int (nI A9), .int (nI B9), .int (nI kw), .int (nI kh)])), (a1, .inl (cA, 4096, .inl fc)), (a2, .inl (cB, 4096, .inl g))] := hD
                    refine lv_iconst (v := nI 1) hx hb dX0_crop_100 (by decide +kernel) ?_
                    have hP9 := hP.sub (ws' := [(h0, .inr (0, [.ref a1, .ref a2, .int (nI A9), .int (nI B9), .int (nI kw), .int (nI kh)])), (a1, .inl (cA, 4096, .inl fc)), (a2, .inl (cB, 4096, .inl g))]) [0, 1, 2] rfl
                    have hD9 := hD.sub (ws' := [(h0, .inr (0, [.ref a1, .ref a2, .int (nI A9), .int (nI B9), .int (nI kw), .int (nI kh)])), (a1, .inl (cA, 4096, .inl fc)), (a2, .inl (cB, 4096, .inl g))]) [0, 1, 2] (by decide) rfl
                    exact W.zret (ty := .boolean) hx hb hr rfl (fun t ht hW => ⟨⟨_, (fc, A9, B9), rfl, (Or.inr ⟨rfl, X, Y, ⟨eX, eY, eA, eB, g4, g5, hA1, hB1⟩, by have e : y0 = B9 := (by omega); rw [e] at hI; exact cf_cw_e hI⟩), by rw [ht]; exact hP9, va_K.moved hW.alike hK, hD9⟩, hS.F ht⟩) hS.2.2 dX0_crop_101
                  · skip
                    have c51 := mt (nI_leI (a := B9) (b := y0) (by omega) (by omega)).mpr c51
                    refine lv_aload_n hx hb dX0_crop_54 rfl (lv_at hl 0 rfl) ?_
                    refine va_get (D := (dC, dI)) (ci := 0) (v := .ref a1) (C := RX0) (T := TX0) (N := 6) hx hb hts (by decide +kernel) hown hK hP 0 rfl rfl 0 (by decide) (hts (.fieldLink RX0 26 "CoefTurns" "cells" "[I") (by decide +kernel)) (fun _ h9 => h9) rfl dX0_crop_55 ?_
                    refine lv_iload_n hx hb dX0_crop_58 rfl (lv_at hl 1 rfl) ?_
                    refine cf_top eX ?_
                    refine lv_iload_n hx hb dX0_crop_59 rfl (lv_at hl 2 rfl) ?_
                    refine cf_top eY ?_
                    refine lv_iload hx hb dX0_crop_60 (lv_at hl 5 rfl) ?_
                    refine lv_iadd hx hb dX0_crop_62 ?_
                    refine cf_top (nI_add _ _) ?_
                    refine vp_callSi (W.runS (As := [.int (nI X), .int (nI (Y + y0))]) (rest := [.ref a1]) ⟨hx, hb, hml, hown, hts⟩ (kX0_blockStart l X (Y + y0)) (va_cwS 2 hts gX0_crop_X0_blockStart rfl rfl rfl (by decide +kernel) ⟨Nat.le_of_ble_eq_true rfl, Nat.le_of_ble_eq_true rfl⟩) ⟨fun a U g mk q => q, fun U hU hW => ⟨rfl, trivial⟩⟩ rfl rfl hl.1 rfl (lv_room (Nat.le_of_ble_eq_true rfl)) dX0_crop_63 ⟨Nat.le_of_ble_eq_true rfl, Nat.le_of_ble_eq_true rfl⟩) (fun r63 w63 => ?_)
                    subst w63
                    refine lv_aload_n hx hb dX0_crop_66 rfl (lv_at hl 0 rfl) ?_
                    refine va_get (D := (dC, dI)) (ci := 0) (v := .ref a1) (C := RX0) (T := TX0) (N := 6) hx hb hts (by decide +kernel) hown hK hP 0 rfl rfl 0 (by decide) (hts (.fieldLink RX0 26 "CoefTurns" "cells" "[I") (by decide +kernel)) (fun _ h9 => h9) rfl dX0_crop_67 ?_
                    refine lv_iconst (v := nI 0) hx hb dX0_crop_70 (by decide +kernel) ?_
                    refine lv_iload hx hb dX0_crop_71 (lv_at hl 5 rfl) ?_
                    refine vp_callSi (W.runS (As := [.int (nI 0), .int (nI y0)]) (rest := [.ref a1, .int (nI (64 * (8 * (Y + y0) + X))), .ref a1]) ⟨hx, hb, hml, hown, hts⟩ (kX0_blockStart l 0 y0) (va_cwS 2 hts gX0_crop_X0_blockStart rfl rfl rfl (by decide +kernel) ⟨Nat.le_of_ble_eq_true rfl, Nat.le_of_ble_eq_true rfl⟩) ⟨fun a U g mk q => q, fun U hU hW => ⟨rfl, trivial⟩⟩ rfl rfl hl.1 rfl (lv_room (Nat.le_of_ble_eq_true rfl)) dX0_crop_73 ⟨Nat.le_of_ble_eq_true rfl, Nat.le_of_ble_eq_true rfl⟩) (fun r73 w73 => ?_)
                    subst w73
                    refine lv_iload_n hx hb dX0_crop_76 rfl (lv_at hl 3 rfl) ?_
                    refine cf_top eA ?_
                    refine lv_bipush (v := nI 64) hx hb dX0_crop_77 (by decide +kernel) ?_
                    refine lv_imul hx hb dX0_crop_79 ?_
                    refine cf_top (pk_mul _ _) ?_
                    refine cf_copyi (D := (dC, dI)) hx hb (hml.trans hl.1.symm) hown (hts (.methodLink RX0 91 arraycopyName) (by decide +kernel)) (hts (.native arraycopyName) (by decide +kernel)) (hts (.static arraycopyName) (by decide +kernel)) (hts (.initialized "java/lang/System") (by decide +kernel)) hK hP hD hS 1 1 0 0 rfl rfl rfl rfl (by omega) (by omega) (by decide) (by decide) (Nat.le_of_ble_eq_true rfl) (Nat.le_of_ble_eq_true rfl) dX0_crop_80 (fun H locs hP hD hS => ?_)
                    have hP : va_P (dC, dI) vwCm [(h0, .inr (0, [.ref a1, .ref a2, .int (nI w), .int (nI h), .int (nI kw), .int (nI kh)])), (a1, .inl (cA, 4096, .inl (va_cpy fc fc (64 * (8 * (Y + y0) + X)) (64 * (8 * y0 + 0)) (A9 * 64)))), (a2, .inl (cB, 4096, .inl g))] H := hP
                    have hD : va_D A [(h0, .inr (0, [.ref a1, .ref a2, .int (nI w), .int (nI h), .int (nI kw), .int (nI kh)])), (a1, .inl (cA, 4096, .inl (va_cpy fc fc (64 * (8 * (Y + y0) + X)) (64 * (8 * y0 + 0)) (A9 * 64)))), (a2, .inl (cB, 4096, .inl g))] := hD
                    refine lv_iinc (v := nI (y0 + 1)) (lv' := [(5, .int (nI (y0 + 1))), (0, .ref h0), (1, .int x), (2, .int y), (3, .int a), (4, .int b)]) hx hb dX0_crop_83 hl (k := 5) rfl (by rw [← nI_add]; rfl) (by decide) rfl (fun ls hl => ?_)
                    refine lv_goto (tgt := 47) hx hb dX0_crop_86 (by decide) ?_
                    exact ih47 (y0 + 1) (va_cpy fc fc (64 * (8 * (Y + y0) + X)) (64 * (8 * y0 + 0)) (A9 * 64)) (by omega) (by omega) (cf_cw_s hI (by omega)) H locs hP hD hS ls (lv_sub hl [1, 2, 3, 4, 5, 0] rfl)
              exact lp47 (B9 + 1) 0 f (by omega) (by omega) cf_cw_0 s.heap [] hP hD hS ls (lv_sub hl [1, 2, 3, 4, 5, 0] rfl)
            · skip
              have g5 := (cf_crop_c hh hY hB9).mp (cf_nle c39)
              refine lv_iconst (v := nI 0) hx hb dX0_crop_42 (by decide +kernel) ?_
              have hP9 := hP.sub (ws' := [(h0, .inr (0, [.ref a1, .ref a2, .int (nI w), .int (nI h), .int (nI kw), .int (nI kh)])), (a1, .inl (cA, 4096, .inl f)), (a2, .inl (cB, 4096, .inl g))]) [0, 1, 2] rfl
              have hD9 := hD.sub (ws' := [(h0, .inr (0, [.ref a1, .ref a2, .int (nI w), .int (nI h), .int (nI kw), .int (nI kh)])), (a1, .inl (cA, 4096, .inl f)), (a2, .inl (cB, 4096, .inl g))]) [0, 1, 2] (by decide) rfl
              exact W.zret (ty := .boolean) hx hb hr rfl (fun t ht hW => ⟨⟨_, (f, w, h), rfl, (Or.inl ⟨rfl, (by rw [eX, eY, eA, eB]; exact cf_no2 hX hY hA9 hB9 hw hh (by omega)), rfl, rfl, rfl⟩), by rw [ht]; exact hP9, va_K.moved hW.alike hK, hD9⟩, hS.F ht⟩) hS.2.2 dX0_crop_43
        · skip
          refine lv_iconst (v := nI 0) hx hb dX0_crop_19 (by decide +kernel) ?_
          have hP9 := hP.sub (ws' := [(h0, .inr (0, [.ref a1, .ref a2, .int (nI w), .int (nI h), .int (nI kw), .int (nI kh)])), (a1, .inl (cA, 4096, .inl f)), (a2, .inl (cB, 4096, .inl g))]) [0, 1, 2] rfl
          have hD9 := hD.sub (ws' := [(h0, .inr (0, [.ref a1, .ref a2, .int (nI w), .int (nI h), .int (nI kw), .int (nI kh)])), (a1, .inl (cA, 4096, .inl f)), (a2, .inl (cB, 4096, .inl g))]) [0, 1, 2] (by decide) rfl
          exact W.zret (ty := .boolean) hx hb hr rfl (fun t ht hW => ⟨⟨_, (f, w, h), rfl, (Or.inl ⟨rfl, (by first | exact cf_no1 hw hh (Or.inr (Or.inr (Or.inl c2))) | exact cf_no1 hw hh (Or.inr (Or.inr (Or.inr c8))) | exact cf_no1 hw hh (Or.inl c12) | exact cf_no1 hw hh (Or.inr (Or.inl (cf_nle c16)))), rfl, rfl, rfl⟩), by rw [ht]; exact hP9, va_K.moved hW.alike hK, hD9⟩, hS.F ht⟩) hS.2.2 dX0_crop_20
end
section
set_option maxHeartbeats 4000000 in
set_option maxRecDepth 100000 in
/-- X0_init -/
theorem kX0_init (l : Launch) (dC : Nat → ClassId) (dI : Nat → Nat → Nat) (sz : Nat) (h0 : Nat) (p1 p2 : Int32) : Met l yX0_init wsX0_init ({ frames := 2, cells := 2, slots := 8192, locals := 41 }) (va_Pc [.ref h0, .int p1, .int p2] (fun U => U.heap.size = sz ∧ va_P (dC, dI) vwCm [(h0, .inr (0, [.null, .null, .int 0, .int 0, .int 0, .int 0]))] U.heap ∧ va_K (dC, dI) vwCm [] U ∧ va_D (fun _ => True) [(h0, .inr (0, [.null, .null, .int 0, .int 0, .int 0, .int 0]))])) (va_Qv (fun u : Nat × Nat => (cf_near p1 = nI u.1 ∧ 1 ≤ u.1 ∧ u.1 ≤ 8) ∧ (cf_near p2 = nI u.2 ∧ 1 ≤ u.2 ∧ u.2 ≤ 8)) (fun (u : Nat × Nat) (t : State) => ∃ (a1 a2 : Nat) (cA cB : ClassId), va_P (dC, dI) vwCm [(h0, .inr (0, [.ref a1, .ref a2, .int (nI u.1), .int (nI u.2), .int (nI u.1), .int (nI u.2)])), (a1, .inl (cA, 4096, .inl (fun _ => 0))), (a2, .inl (cB, 4096, .inl (fun _ => 0)))] t.heap ∧ va_K (dC, dI) vwCm [(cA, .int), (cB, .int)] t ∧ va_D (va_A [(h0, .inr (0, [.null, .null, .int 0, .int 0, .int 0, .int 0]))] sz) [(h0, .inr (0, [.ref a1, .ref a2, .int (nI u.1), .int (nI u.2), .int (nI u.1), .int (nI u.2)])), (a1, .inl (cA, 4096, .inl (fun _ => 0))), (a2, .inl (cB, 4096, .inl (fun _ => 0)))]) (va_A [(h0, .inr (0, [.null, .null, .int 0, .int 0, .int 0, .int 0]))] sz)) 2 8192 (va_A [(h0, .inr (0, [.null, .null, .int 0, .int 0, .int 0, .int 0]))] sz) := by
  refine Met.ofW (cc := cX0_init) (maxL := 3) (ret := none) (by decide) rfl ?_
  intro p e s m args below meth c s₁ B hml hv
  obtain ⟨rfl, hsz, hP, hK, hD0⟩ := hv
  have hx := B.exec
  have hb := B.bytes
  have hr := B.returns
  have hts := atoms_spec (ws := wsX0_init) B.pre
  have hown : s.vm.findClass RX0 = some m.cls := findClass_of_methodNamed B.named
  have hlocks := B.notSynchronized
  have hin : meth.name = "<init>" := (name_of_methodNamed B.named B.method).1
  subst hsz
  have hD := hD0.self (sz := s.heap.size)
  generalize hAe : va_A [(h0, .inr (0, [.null, .null, .int 0, .int 0, .int 0, .int 0]))] s.heap.size = A at hD ⊢
  have hA : ∀ q : Nat, s.heap.size ≤ q → A q := fun q h => by rw [← hAe]; exact Or.inr h
  have hS : va_S A s.heap s.heap [] := va_S.rf
  have hP : va_P (dC, dI) vwCm [(h0, .inr (0, [.null, .null, .int 0, .int 0, .int 0, .int 0]))] s.heap := hP
  have hl := lv_entry ([.ref h0, .int p1, .int p2]) (n := 3) (Nat.le_of_ble_eq_true rfl)
  rw [lg_entry_eq]
  generalize (lg_sl ([.ref h0, .int p1, .int p2]) ++ List.replicate (3 - (lg_sl ([.ref h0, .int p1, .int p2])).length) Slot.unset).toArray = ls at hl ⊢
  have hl : lv_has ls 3 [(0, .ref h0), (1, .int p1), (2, .int p2)] := hl
  refine lv_aload_n hx hb dX0_init_0 rfl (lv_at hl 0 rfl) ?_
  refine W.objInit hx hb hown (hts (.methodLink RX0 3 objectInit) (by decide +kernel)) (hts (.instanceMethod objectInit) (by decide +kernel)) (hts (.code objectInit ⟨#[0xb1]⟩ 1 none) (by first | exact List.mem_of_getElem? (i := 3) rfl | decide +kernel)) rfl (by rw [hml]; exact hl.1) rfl dX0_init_1 (Nat.le_of_ble_eq_true rfl) (Nat.le_of_ble_eq_true rfl) ?_
  refine W.eq (g2 := F0 m 4 ls []) rfl ?_
  refine lv_aload_n hx hb dX0_init_4 rfl (lv_at hl 0 rfl) ?_
  refine lv_iload_n hx hb dX0_init_5 rfl (lv_at hl 1 rfl) ?_
  refine vp_callSi (W.runS (As := [.int p1]) (rest := [.ref h0]) ⟨hx, hb, hml, hown, hts⟩ (kX0_nearestSize l p1) (va_cwS 1 hts gX0_init_X0_nearestSize rfl rfl rfl (by decide +kernel) ⟨Nat.le_of_ble_eq_true rfl, Nat.le_of_ble_eq_true rfl⟩) ⟨fun a U g mk q => q, fun U hU hW => ⟨rfl, trivial⟩⟩ rfl rfl hl.1 rfl (lv_room (Nat.le_of_ble_eq_true rfl)) dX0_init_6 ⟨Nat.le_of_ble_eq_true rfl, Nat.le_of_ble_eq_true rfl⟩) (fun r6 w6 => ?_)
  obtain ⟨n6, hn16, hn86, en6⟩ := cf_near_n p1
  refine cf_top (w6.trans en6) ?_
  refine va_put (D := (dC, dI)) (ci := 0) (v := .int (nI n6)) (ty := .int) (C := RX0) (T := TX0) (N := 6) hx hb hts (by decide +kernel) tyX0 tyX0_ok nmX0 hown hK hP hD hS 0 rfl rfl 2 (by decide) (hts (.fieldLink RX0 13 "CoefTurns" "width" "I") (by decide +kernel)) (fun _ h9 => h9) rfl (by decide +kernel) rfl rfl (Nat.le_of_ble_eq_true rfl) dX0_init_9 (fun H locs hP hD hS => ?_)
  have hP : va_P (dC, dI) vwCm [(h0, .inr (0, [.null, .null, .int (nI n6), .int 0, .int 0, .int 0]))] H := hP
  have hD : va_D A [(h0, .inr (0, [.null, .null, .int (nI n6), .int 0, .int 0, .int 0]))] := hD
  refine lv_aload_n hx hb dX0_init_12 rfl (lv_at hl 0 rfl) ?_
  refine lv_iload_n hx hb dX0_init_13 rfl (lv_at hl 2 rfl) ?_
  refine vp_callSi (W.runS (As := [.int p2]) (rest := [.ref h0]) ⟨hx, hb, hml, hown, hts⟩ (kX0_nearestSize l p2) (va_cwS 1 hts gX0_init_X0_nearestSize rfl rfl rfl (by decide +kernel) ⟨Nat.le_of_ble_eq_true rfl, Nat.le_of_ble_eq_true rfl⟩) ⟨fun a U g mk q => q, fun U hU hW => ⟨rfl, trivial⟩⟩ rfl rfl hl.1 rfl (lv_room (Nat.le_of_ble_eq_true rfl)) dX0_init_14 ⟨Nat.le_of_ble_eq_true rfl, Nat.le_of_ble_eq_true rfl⟩) (fun r14 w14 => ?_)
  obtain ⟨n14, hn114, hn814, en14⟩ := cf_near_n p2
  refine cf_top (w14.trans en14) ?_
  refine va_put (D := (dC, dI)) (ci := 0) (v := .int (nI n14)) (ty := .int) (C := RX0) (T := TX0) (N := 6) hx hb hts (by decide +kernel) tyX0 tyX0_ok nmX0 hown hK hP hD hS 0 rfl rfl 3 (by decide) (hts (.fieldLink RX0 17 "CoefTurns" "height" "I") (by decide +kernel)) (fun _ h9 => h9) rfl (by decide +kernel) rfl rfl (Nat.le_of_ble_eq_true rfl) dX0_init_17 (fun H locs hP hD hS => ?_)
  have hP : va_P (dC, dI) vwCm [(h0, .inr (0, [.null, .null, .int (nI n6), .int (nI n14), .int 0, .int 0]))] H := hP
  have hD : va_D A [(h0, .inr (0, [.null, .null, .int (nI n6), .int (nI n14), .int 0, .int 0]))] := hD
  refine lv_aload_n hx hb dX0_init_20 rfl (lv_at hl 0 rfl) ?_
  refine lv_aload_n hx hb dX0_init_21 rfl (lv_at hl 0 rfl) ?_
  refine va_get (D := (dC, dI)) (ci := 0) (v := .int (nI n6)) (C := RX0) (T := TX0) (N := 6) hx hb hts (by decide +kernel) hown hK hP 0 rfl rfl 2 (by decide) (hts (.fieldLink RX0 13 "CoefTurns" "width" "I") (by decide +kernel)) (fun _ h9 => h9) rfl dX0_init_22 ?_
  refine va_put (D := (dC, dI)) (ci := 0) (v := .int (nI n6)) (ty := .int) (C := RX0) (T := TX0) (N := 6) hx hb hts (by decide +kernel) tyX0 tyX0_ok nmX0 hown hK hP hD hS 0 rfl rfl 4 (by decide) (hts (.fieldLink RX0 20 "CoefTurns" "keptWidth" "I") (by decide +kernel)) (fun _ h9 => h9) rfl (by decide +kernel) rfl rfl (Nat.le_of_ble_eq_true rfl) dX0_init_25 (fun H locs hP hD hS => ?_)
  have hP : va_P (dC, dI) vwCm [(h0, .inr (0, [.null, .null, .int (nI n6), .int (nI n14), .int (nI n6), .int 0]))] H := hP
  have hD : va_D A [(h0, .inr (0, [.null, .null, .int (nI n6), .int (nI n14), .int (nI n6), .int 0]))] := hD
  refine lv_aload_n hx hb dX0_init_28 rfl (lv_at hl 0 rfl) ?_
  refine lv_aload_n hx hb dX0_init_29 rfl (lv_at hl 0 rfl) ?_
  refine va_get (D := (dC, dI)) (ci := 0) (v := .int (nI n14)) (C := RX0) (T := TX0) (N := 6) hx hb hts (by decide +kernel) hown hK hP 0 rfl rfl 3 (by decide) (hts (.fieldLink RX0 17 "CoefTurns" "height" "I") (by decide +kernel)) (fun _ h9 => h9) rfl dX0_init_30 ?_
  refine va_put (D := (dC, dI)) (ci := 0) (v := .int (nI n14)) (ty := .int) (C := RX0) (T := TX0) (N := 6) hx hb hts (by decide +kernel) tyX0 tyX0_ok nmX0 hown hK hP hD hS 0 rfl rfl 5 (by decide) (hts (.fieldLink RX0 23 "CoefTurns" "keptHeight" "I") (by decide +kernel)) (fun _ h9 => h9) rfl (by decide +kernel) rfl rfl (Nat.le_of_ble_eq_true rfl) dX0_init_33 (fun H locs hP hD hS => ?_)
  have hP : va_P (dC, dI) vwCm [(h0, .inr (0, [.null, .null, .int (nI n6), .int (nI n14), .int (nI n6), .int (nI n14)]))] H := hP
  have hD : va_D A [(h0, .inr (0, [.null, .null, .int (nI n6), .int (nI n14), .int (nI n6), .int (nI n14)]))] := hD
  refine lv_aload_n hx hb dX0_init_36 rfl (lv_at hl 0 rfl) ?_
  refine lv_sipush (v := nI 4096) hx hb dX0_init_37 (by decide +kernel) ?_
  refine va_newa (D := (dC, dI)) (a0 := (4096, .inl (fun _ => 0))) (ty := .int) (N' := 4096) hx hb (hts (.arrayClass .int) (by decide +kernel)) rfl hK hP hD hS hA (fun _ => rfl) (nI_pos (by omega)) (nI_clamp (by omega)) (by decide) (Nat.le_of_ble_eq_true rfl) (Nat.le_of_ble_eq_true rfl) dX0_init_40 (fun q40 cA40 H hK hP hD hS => ?_)
  have hP : va_P (dC, dI) vwCm [(h0, .inr (0, [.null, .null, .int (nI n6), .int (nI n14), .int (nI n6), .int (nI n14)])), (q40, .inl (cA40, 4096, .inl (fun _ => 0)))] H := hP
  have hD : va_D A [(h0, .inr (0, [.null, .null, .int (nI n6), .int (nI n14), .int (nI n6), .int (nI n14)])), (q40, .inl (cA40, 4096, .inl (fun _ => 0)))] := hD
  have hK : va_K (dC, dI) vwCl [(cA40, .int)] s := hK
  refine va_putF (D := (dC, dI)) (ci := 0) (v := .ref q40) (ty := (.array .int)) (C := RX0) (T := TX0) (N := 6) hx hb hts (by decide +kernel) tyX0 tyX0_ok nmX0 hown hK hP hD hS 0 rfl rfl 0 (by decide) (hts (.fieldLink RX0 26 "CoefTurns" "cells" "[I") (by decide +kernel)) (fun _ h9 => h9) rfl hin rfl (by decide +kernel) rfl rfl (Nat.le_of_ble_eq_true rfl) dX0_init_42 (fun H locs hP hD hS => ?_)
  have hP : va_P (dC, dI) vwCm [(h0, .inr (0, [.ref q40, .null, .int (nI n6), .int (nI n14), .int (nI n6), .int (nI n14)])), (q40, .inl (cA40, 4096, .inl (fun _ => 0)))] H := hP
  have hD : va_D A [(h0, .inr (0, [.ref q40, .null, .int (nI n6), .int (nI n14), .int (nI n6), .int (nI n14)])), (q40, .inl (cA40, 4096, .inl (fun _ => 0)))] := hD
  refine lv_aload_n hx hb dX0_init_45 rfl (lv_at hl 0 rfl) ?_
  refine lv_sipush (v := nI 4096) hx hb dX0_init_46 (by decide +kernel) ?_
  refine va_newa (D := (dC, dI)) (a0 := (4096, .inl (fun _ => 0))) (ty := .int) (N' := 4096) hx hb (hts (.arrayClass .int) (by decide +kernel)) rfl hK hP hD hS hA (fun _ => rfl) (nI_pos (by omega)) (nI_clamp (by omega)) (by decide) (Nat.le_of_ble_eq_true rfl) (Nat.le_of_ble_eq_true rfl) dX0_init_49 (fun q49 cA49 H hK hP hD hS => ?_)
  have hP : va_P (dC, dI) vwCm [(h0, .inr (0, [.ref q40, .null, .int (nI n6), .int (nI n14), .int (nI n6), .int (nI n14)])), (q40, .inl (cA40, 4096, .inl (fun _ => 0))), (q49, .inl (cA49, 4096, .inl (fun _ => 0)))] H := hP
  have hD : va_D A [(h0, .inr (0, [.ref q40, .null, .int (nI n6), .int (nI n14), .int (nI n6), .int (nI n14)])), (q40, .inl (cA40, 4096, .inl (fun _ => 0))), (q49, .inl (cA49, 4096, .inl (fun _ => 0)))] := hD
  have hK : va_K (dC, dI) vwCl [(cA40, .int), (cA49, .int)] s := hK
  refine va_putF (D := (dC, dI)) (ci := 0) (v := .ref q49) (ty := (.array .int)) (C := RX0) (T := TX0) (N := 6) hx hb hts (by decide +kernel) tyX0 tyX0_ok nmX0 hown hK hP hD hS 0 rfl rfl 1 (by decide) (hts (.fieldLink RX0 30 "CoefTurns" "keptCells" "[I") (by decide +kernel)) (fun _ h9 => h9) rfl hin rfl (by decide +kernel) rfl rfl (Nat.le_of_ble_eq_true rfl) dX0_init_51 (fun H locs hP hD hS => ?_)
  have hP : va_P (dC, dI) vwCm [(h0, .inr (0, [.ref q40, .ref q49, .int (nI n6), .int (nI n14), .int (nI n6), .int (nI n14)])), (q40, .inl (cA40, 4096, .inl (fun _ => 0))), (q49, .inl (cA49, 4096, .inl (fun _ => 0)))] H := hP
  have hD : va_D A [(h0, .inr (0, [.ref q40, .ref q49, .int (nI n6), .int (nI n14), .int (nI n6), .int (nI n14)])), (q40, .inl (cA40, 4096, .inl (fun _ => 0))), (q49, .inl (cA49, 4096, .inl (fun _ => 0)))] := hD
  refine W.widen (k := 2) (n := 8192) (by omega) (by omega) ?_
  have hP9 := hP.sub (ws' := [(h0, .inr (0, [.ref q40, .ref q49, .int (nI n6), .int (nI n14), .int (nI n6), .int (nI n14)])), (q40, .inl (cA40, 4096, .inl (fun _ => 0))), (q49, .inl (cA49, 4096, .inl (fun _ => 0)))]) [0, 1, 2] rfl
  have hD9 := hD.sub (ws' := [(h0, .inr (0, [.ref q40, .ref q49, .int (nI n6), .int (nI n14), .int (nI n6), .int (nI n14)])), (q40, .inl (cA40, 4096, .inl (fun _ => 0))), (q49, .inl (cA49, 4096, .inl (fun _ => 0)))]) [0, 1, 2] (by decide) rfl
  have hK9 := hK.sub (tys' := [(cA40, .int), (cA49, .int)]) [0, 1] rfl
  exact W.vret hx hb hr (fun t ht hW => ⟨⟨(n6, n14), rfl, ⟨⟨en6, hn16, hn86⟩, en14, hn114, hn814⟩, q40, q49, cA40, cA49, by rw [ht]; exact hP9, va_K.moved hW.alike hK9, hD9⟩, hS.F ht⟩) hS.2.2 dX0_init_54
set_option maxHeartbeats 4000000 in
set_option maxRecDepth 100000 in
/-- X0_put -/
theorem kX0_put (l : Launch) (dC : Nat → ClassId) (dI : Nat → Nat → Nat) (sz : Nat) (h0 a1 a2 : Nat) (cA cB : ClassId) (f g : Nat → Int32) (w h kw kh : Nat) (bx bz q v : Int32) (sa1 sa2 sa3 : Nat) (hw : w ≤ 8) (hh : h ≤ 8) (htr : l.stackTraces = false) : vx_Met l yX0_put wsX0_put ({ frames := 6, cells := 1, slots := 6, locals := 100 }) (va_Pc [.ref h0, .int bx, .int bz, .int q, .int v] (fun U => U.heap.size = sz ∧ va_P (dC, dI) vwCm [(h0, .inr (0, [.ref a1, .ref a2, .int (nI w), .int (nI h), .int (nI kw), .int (nI kh)])), (a1, .inl (cA, 4096, .inl f)), (a2, .inl (cB, 4096, .inl g))] U.heap ∧ va_K (dC, dI) vwCm [(cA, .int), (cB, .int)] U ∧ va_D (fun _ => True) [(h0, .inr (0, [.ref a1, .ref a2, .int (nI w), .int (nI h), .int (nI kw), .int (nI kh)])), (a1, .inl (cA, 4096, .inl f)), (a2, .inl (cB, 4096, .inl g))] ∧ cf_Xf sa1 sa2 sa3 U ∧ cf_Zf (va_A [(h0, .inr (0, [.ref a1, .ref a2, .int (nI w), .int (nI h), .int (nI kw), .int (nI kh)])), (a1, .inl (cA, 4096, .inl f)), (a2, .inl (cB, 4096, .inl g))] sz) U U.heap)) (va_Qv (fun u : Nat → Int32 => cf_pk w h bx bz q v = nI 0 ∧ cf_Ag w h (cf_V u) (cf_pu w h bx bz q v (cf_V f))) (fun (u : Nat → Int32) (t : State) => va_P (dC, dI) vwCm [(h0, .inr (0, [.ref a1, .ref a2, .int (nI w), .int (nI h), .int (nI kw), .int (nI kh)])), (a1, .inl (cA, 4096, .inl u)), (a2, .inl (cB, 4096, .inl g))] t.heap ∧ va_K (dC, dI) vwCm [(cA, .int), (cB, .int)] t ∧ va_D (va_A [(h0, .inr (0, [.ref a1, .ref a2, .int (nI w), .int (nI h), .int (nI kw), .int (nI kh)])), (a1, .inl (cA, 4096, .inl f)), (a2, .inl (cB, 4096, .inl g))] sz) [(h0, .inr (0, [.ref a1, .ref a2, .int (nI w), .int (nI h), .int (nI kw), .int (nI kh)])), (a1, .inl (cA, 4096, .inl u)), (a2, .inl (cB, 4096, .inl g))]) (va_A [(h0, .inr (0, [.ref a1, .ref a2, .int (nI w), .int (nI h), .int (nI kw), .int (nI kh)])), (a1, .inl (cA, 4096, .inl f)), (a2, .inl (cB, 4096, .inl g))] sz)) (vx_X (fun _ : Unit => True) (fun (E : String) (_ : Unit) (t : State) => ((E = "java/lang/IndexOutOfBoundsException" ∧ cf_pk w h bx bz q v = nI 1) ∨ (E = "java/lang/IllegalArgumentException" ∧ cf_pk w h bx bz q v = nI 2)) ∧ va_P (dC, dI) vwCm [(h0, .inr (0, [.ref a1, .ref a2, .int (nI w), .int (nI h), .int (nI kw), .int (nI kh)])), (a1, .inl (cA, 4096, .inl f)), (a2, .inl (cB, 4096, .inl g))] t.heap) (va_A [(h0, .inr (0, [.ref a1, .ref a2, .int (nI w), .int (nI h), .int (nI kw), .int (nI kh)])), (a1, .inl (cA, 4096, .inl f)), (a2, .inl (cB, 4096, .inl g))] sz)) 1 6 (va_A [(h0, .inr (0, [.ref a1, .ref a2, .int (nI w), .int (nI h), .int (nI kw), .int (nI kh)])), (a1, .inl (cA, 4096, .inl f)), (a2, .inl (cB, 4096, .inl g))] sz) := by
  refine vx_ofW (cc := cX0_put) (maxL := 5) (ret := none) (by decide) rfl ?_
  intro p e s m args below meth c s₁ B hml hnt hv
  obtain ⟨rfl, hsz, hP, hK, hD0, hXf, hZf⟩ := hv
  have hx := B.exec
  have hb := B.bytes
  have hr := B.returns
  have hts := atoms_spec (ws := wsX0_put) B.pre
  have hown : s.vm.findClass RX0 = some m.cls := findClass_of_methodNamed B.named
  have hlocks := B.notSynchronized
  subst hsz
  have hD := hD0.self (sz := s.heap.size)
  generalize hAe : va_A [(h0, .inr (0, [.ref a1, .ref a2, .int (nI w), .int (nI h), .int (nI kw), .int (nI kh)])), (a1, .inl (cA, 4096, .inl f)), (a2, .inl (cB, 4096, .inl g))] s.heap.size = A at hD hZf ⊢
  have hA : ∀ q : Nat, s.heap.size ≤ q → A q := fun q h => by rw [← hAe]; exact Or.inr h
  have hS : va_S A s.heap s.heap [] := va_S.rf
  have hP : va_P (dC, dI) vwCm [(h0, .inr (0, [.ref a1, .ref a2, .int (nI w), .int (nI h), .int (nI kw), .int (nI kh)])), (a1, .inl (cA, 4096, .inl f)), (a2, .inl (cB, 4096, .inl g))] s.heap := hP
  have hl := lv_entry ([.ref h0, .int bx, .int bz, .int q, .int v]) (n := 5) (Nat.le_of_ble_eq_true rfl)
  rw [lg_entry_eq]
  generalize (lg_sl ([.ref h0, .int bx, .int bz, .int q, .int v]) ++ List.replicate (5 - (lg_sl ([.ref h0, .int bx, .int bz, .int q, .int v])).length) Slot.unset).toArray = ls at hl ⊢
  have hl : lv_has ls 5 [(0, .ref h0), (1, .int bx), (2, .int bz), (3, .int q), (4, .int v)] := hl
  refine lv_aload_n hx hb dX0_put_0 rfl (lv_at hl 0 rfl) ?_
  refine lv_iload_n hx hb dX0_put_1 rfl (lv_at hl 1 rfl) ?_
  refine lv_iload_n hx hb dX0_put_2 rfl (lv_at hl 2 rfl) ?_
  have hPc := hP.sub (ws' := [(h0, .inr (0, [.ref a1, .ref a2, .int (nI w), .int (nI h), .int (nI kw), .int (nI kh)])), (a1, .inl (cA, 4096, .inl f)), (a2, .inl (cB, 4096, .inl g))]) [0, 1, 2] rfl
  have hKc := hK.sub (tys' := [(cA, .int), (cB, .int)]) [0, 1] rfl
  refine vp_callSi (W.runV (As := [.int bx, .int bz]) (rest := []) ⟨hx, hb, hml, hown, hts⟩ (kX0_isBlock l dC dI h0 a1 a2 cA cB f g w h kw kh bx bz) (cwV 2 hts gX0_put_X0_isBlock rfl rfl rfl (by decide +kernel) ⟨Nat.le_of_ble_eq_true rfl, Nat.le_of_ble_eq_true rfl⟩) ⟨fun a U g mk q => by obtain ⟨q0, qP, qK⟩ := q; exact ⟨q0, qP, va_K.moved (u := U) (U := U.calling g mk a) (Vm.Alike.refl U.vm) qK⟩, va_recv hKc hPc (ci := 0) (q0 := 0) rfl rfl, fun U hU hW => ⟨rfl, by rw [hU]; exact hPc, va_K.moved hW.alike hKc⟩⟩ rfl rfl hl.1 rfl (lv_room (Nat.le_of_ble_eq_true rfl)) dX0_put_3 ⟨Nat.le_of_ble_eq_true rfl, Nat.le_of_ble_eq_true rfl⟩) (fun r3 w3 => ?_)
  subst w3
  refine lv_if_eq (tgt := 16) hx hb dX0_put_6 (by decide) (fun c6 => ?_) (fun c6 => ?_)
  · skip
    exact vx_throwS (own := RX0) (cls := "java/lang/IndexOutOfBoundsException") (text := "no such block or place") (names := ["java/lang/RuntimeException", "java/lang/Exception"]) (ik := 41) (is := 43) (ic := 45) (A := A) hx hb htr hown (by decide +kernel) (by decide +kernel) (hts (.classLink RX0 41 "java/lang/IndexOutOfBoundsException") (by decide +kernel)) (hts (.initialized "java/lang/IndexOutOfBoundsException") (by decide +kernel)) hXf.2.1 (vx_hat (fun w hw9 => hts w (List.mem_cons_of_mem _ (List.mem_append_left _ (List.mem_append_right _ hw9)))) (B := cf_BIO) (by decide +kernel) (hXf.bio _)) (by decide +kernel) hZf.1 hZf.2 hS (hl.1.trans hml.symm) dX0_put_16 dX0_put_19 dX0_put_20 dX0_put_22 dX0_put_25 (fun x h => (hnt x h).elim) (Nat.le_of_ble_eq_true rfl) (Nat.le_of_ble_eq_true rfl) (Nat.le_of_ble_eq_true rfl) (Nat.le_of_ble_eq_true rfl) hlocks (fun t ha hz hq => ⟨(), trivial, ⟨(by have e : cf_pk w h bx bz q v = nI 1 := (by unfold cf_pk; (first | rw [if_pos c6] | rw [if_neg c6] | rw [if_neg (cf_nlt c6)] | rw [if_pos (cf_nle c6)] | skip)); exact Or.inl ⟨rfl, e⟩), fun k q hk => (hP k q hk).kept (hq _ (hP k q hk).lt)⟩, hz, fun q h _ => hq q h⟩) hS.2.2 (by omega) (by omega)
  · skip
    obtain ⟨x, z, hx_, hz_, ebx, ebz⟩ := cf_ib_1 hw hh c6
    refine lv_iload_n hx hb dX0_put_9 rfl (lv_at hl 3 rfl) ?_
    refine vp_callSi (W.runS (As := [.int q]) (rest := []) ⟨hx, hb, hml, hown, hts⟩ (kX0_isPlace l q) (va_cwS 1 hts gX0_put_X0_isPlace rfl rfl rfl (by decide +kernel) ⟨Nat.le_of_ble_eq_true rfl, Nat.le_of_ble_eq_true rfl⟩) ⟨fun a U g mk q => q, fun U hU hW => ⟨rfl, trivial⟩⟩ rfl rfl hl.1 rfl (lv_room (Nat.le_of_ble_eq_true rfl)) dX0_put_10 ⟨Nat.le_of_ble_eq_true rfl, Nat.le_of_ble_eq_true rfl⟩) (fun r10 w10 => ?_)
    subst w10
    refine lv_if_ne (tgt := 26) hx hb dX0_put_13 (by decide) (fun c13 => ?_) (fun c13 => ?_)
    · skip
      obtain ⟨j, hj, eq⟩ := cf_ip_1 c13
      refine lv_iload hx hb dX0_put_26 (lv_at hl 4 rfl) ?_
      refine lv_sipush (v := (-32767)) hx hb dX0_put_28 (by decide +kernel) ?_
      refine lv_icmp_lt (tgt := 42) hx hb dX0_put_31 (by decide) (fun c31 => ?_) (fun c31 => ?_)
      · skip
        exact vx_throwS (own := RX0) (cls := "java/lang/IllegalArgumentException") (text := "a coefficient is -32767 .. 32767") (names := ["java/lang/RuntimeException", "java/lang/Exception"]) (ik := 48) (is := 50) (ic := 52) (A := A) hx hb htr hown (by decide +kernel) (by decide +kernel) (hts (.classLink RX0 48 "java/lang/IllegalArgumentException") (by decide +kernel)) (hts (.initialized "java/lang/IllegalArgumentException") (by decide +kernel)) hXf.2.2.1 (vx_hat (fun w hw9 => hts w (List.mem_cons_of_mem _ (List.mem_append_right _ hw9))) (B := cf_BIA) (by decide +kernel) (hXf.bia _)) (by decide +kernel) hZf.1 hZf.2 hS (hl.1.trans hml.symm) dX0_put_42 dX0_put_45 dX0_put_46 dX0_put_48 dX0_put_51 (fun x h => (hnt x h).elim) (Nat.le_of_ble_eq_true rfl) (Nat.le_of_ble_eq_true rfl) (Nat.le_of_ble_eq_true rfl) (Nat.le_of_ble_eq_true rfl) hlocks (fun t ha hz hq => ⟨(), trivial, ⟨(by have e : cf_pk w h bx bz q v = nI 2 := (by unfold cf_pk; (first | rw [if_pos c6] | rw [if_neg c6] | rw [if_neg (cf_nlt c6)] | rw [if_pos (cf_nle c6)] | skip); (first | rw [if_pos c13] | rw [if_neg c13] | rw [if_neg (cf_nlt c13)] | rw [if_pos (cf_nle c13)] | skip); (first | rw [if_pos c31] | rw [if_neg c31] | rw [if_neg (cf_nlt c31)] | rw [if_pos (cf_nle c31)] | skip)); exact Or.inr ⟨rfl, e⟩), fun k q hk => (hP k q hk).kept (hq _ (hP k q hk).lt)⟩, hz, fun q h _ => hq q h⟩) hS.2.2 (by omega) (by omega)
      · skip
        refine lv_iload hx hb dX0_put_34 (lv_at hl 4 rfl) ?_
        refine lv_sipush (v := nI 32767) hx hb dX0_put_36 (by decide +kernel) ?_
        refine lv_icmp_le (tgt := 52) hx hb dX0_put_39 (by decide) (fun c39 => ?_) (fun c39 => ?_)
        · skip
          refine lv_aload_n hx hb dX0_put_52 rfl (lv_at hl 0 rfl) ?_
          refine va_get (D := (dC, dI)) (ci := 0) (v := .ref a1) (C := RX0) (T := TX0) (N := 6) hx hb hts (by decide +kernel) hown hK hP 0 rfl rfl 0 (by decide) (hts (.fieldLink RX0 26 "CoefTurns" "cells" "[I") (by decide +kernel)) (fun _ h9 => h9) rfl dX0_put_53 ?_
          refine lv_iload_n hx hb dX0_put_56 rfl (lv_at hl 1 rfl) ?_
          refine cf_top ebx ?_
          refine lv_iload_n hx hb dX0_put_57 rfl (lv_at hl 2 rfl) ?_
          refine cf_top ebz ?_
          refine vp_callSi (W.runS (As := [.int (nI x), .int (nI z)]) (rest := [.ref a1]) ⟨hx, hb, hml, hown, hts⟩ (kX0_blockStart l x z) (va_cwS 2 hts gX0_put_X0_blockStart rfl rfl rfl (by decide +kernel) ⟨Nat.le_of_ble_eq_true rfl, Nat.le_of_ble_eq_true rfl⟩) ⟨fun a U g mk q => q, fun U hU hW => ⟨rfl, trivial⟩⟩ rfl rfl hl.1 rfl (lv_room (Nat.le_of_ble_eq_true rfl)) dX0_put_58 ⟨Nat.le_of_ble_eq_true rfl, Nat.le_of_ble_eq_true rfl⟩) (fun r58 w58 => ?_)
          subst w58
          refine lv_iload_n hx hb dX0_put_61 rfl (lv_at hl 3 rfl) ?_
          refine cf_top eq ?_
          refine lv_iadd hx hb dX0_put_62 ?_
          refine cf_top (nI_add _ _) ?_
          refine lv_iload hx hb dX0_put_63 (lv_at hl 4 rfl) ?_
          refine cf_iast (D := (dC, dI)) hx hb hK hP hD hS 1 0 rfl rfl (k := 64 * (8 * z + x) + j) (by omega) (by decide) dX0_put_65 (fun H locs hP hD hS => ?_)
          have hP : va_P (dC, dI) vwCm [(h0, .inr (0, [.ref a1, .ref a2, .int (nI w), .int (nI h), .int (nI kw), .int (nI kh)])), (a1, .inl (cA, 4096, .inl (upd f (64 * (8 * z + x) + j) v))), (a2, .inl (cB, 4096, .inl g))] H := hP
          have hD : va_D A [(h0, .inr (0, [.ref a1, .ref a2, .int (nI w), .int (nI h), .int (nI kw), .int (nI kh)])), (a1, .inl (cA, 4096, .inl (upd f (64 * (8 * z + x) + j) v))), (a2, .inl (cB, 4096, .inl g))] := hD
          have hP9 := hP.sub (ws' := [(h0, .inr (0, [.ref a1, .ref a2, .int (nI w), .int (nI h), .int (nI kw), .int (nI kh)])), (a1, .inl (cA, 4096, .inl (upd f (64 * (8 * z + x) + j) v))), (a2, .inl (cB, 4096, .inl g))]) [0, 1, 2] rfl
          have hD9 := hD.sub (ws' := [(h0, .inr (0, [.ref a1, .ref a2, .int (nI w), .int (nI h), .int (nI kw), .int (nI kh)])), (a1, .inl (cA, 4096, .inl (upd f (64 * (8 * z + x) + j) v))), (a2, .inl (cB, 4096, .inl g))]) [0, 1, 2] (by decide) rfl
          refine W.widen (k := 1) (n := 6) (by omega) (by omega) ?_
          refine vx_ret ?_
          exact W.vret hx hb hr (fun t ht hW => ⟨⟨_, rfl, (by have e : cf_pk w h bx bz q v = nI 0 := (by unfold cf_pk; (first | rw [if_pos c6] | rw [if_neg c6] | rw [if_neg (cf_nlt c6)] | rw [if_pos (cf_nle c6)] | skip); (first | rw [if_pos c13] | rw [if_neg c13] | rw [if_neg (cf_nlt c13)] | rw [if_pos (cf_nle c13)] | skip); (first | rw [if_pos c31] | rw [if_neg c31] | rw [if_neg (cf_nlt c31)] | rw [if_pos (cf_nle c31)] | skip); (first | rw [if_pos c39] | rw [if_neg c39] | rw [if_neg (cf_nlt c39)] | rw [if_pos (cf_nle c39)] | skip)); refine ⟨e, ?_⟩; unfold cf_pu; rw [if_pos (e.trans nI_0), ebx, ebz, eq, nI_clamp (by omega), nI_clamp (by omega), nI_clamp (by omega)]; exact cf_p1_upd hw hx_ hj), by rw [ht]; exact hP9, va_K.moved hW.alike hK, hD9⟩, hS.F ht⟩) hS.2.2 dX0_put_66
        · skip
          exact vx_throwS (own := RX0) (cls := "java/lang/IllegalArgumentException") (text := "a coefficient is -32767 .. 32767") (names := ["java/lang/RuntimeException", "java/lang/Exception"]) (ik := 48) (is := 50) (ic := 52) (A := A) hx hb htr hown (by decide +kernel) (by decide +kernel) (hts (.classLink RX0 48 "java/lang/IllegalArgumentException") (by decide +kernel)) (hts (.initialized "java/lang/IllegalArgumentException") (by decide +kernel)) hXf.2.2.1 (vx_hat (fun w hw9 => hts w (List.mem_cons_of_mem _ (List.mem_append_right _ hw9))) (B := cf_BIA) (by decide +kernel) (hXf.bia _)) (by decide +kernel) hZf.1 hZf.2 hS (hl.1.trans hml.symm) dX0_put_42 dX0_put_45 dX0_put_46 dX0_put_48 dX0_put_51 (fun x h => (hnt x h).elim) (Nat.le_of_ble_eq_true rfl) (Nat.le_of_ble_eq_true rfl) (Nat.le_of_ble_eq_true rfl) (Nat.le_of_ble_eq_true rfl) hlocks (fun t ha hz hq => ⟨(), trivial, ⟨(by have e : cf_pk w h bx bz q v = nI 2 := (by unfold cf_pk; (first | rw [if_pos c6] | rw [if_neg c6] | rw [if_neg (cf_nlt c6)] | rw [if_pos (cf_nle c6)] | skip); (first | rw [if_pos c13] | rw [if_neg c13] | rw [if_neg (cf_nlt c13)] | rw [if_pos (cf_nle c13)] | skip); (first | rw [if_pos c31] | rw [if_neg c31] | rw [if_neg (cf_nlt c31)] | rw [if_pos (cf_nle c31)] | skip); (first | rw [if_pos c39] | rw [if_neg c39] | rw [if_neg (cf_nlt c39)] | rw [if_pos (cf_nle c39)] | skip)); exact Or.inr ⟨rfl, e⟩), fun k q hk => (hP k q hk).kept (hq _ (hP k q hk).lt)⟩, hz, fun q h _ => hq q h⟩) hS.2.2 (by omega) (by omega)
    · skip
      exact vx_throwS (own := RX0) (cls := "java/lang/IndexOutOfBoundsException") (text := "no such block or place") (names := ["java/lang/RuntimeException", "java/lang/Exception"]) (ik := 41) (is := 43) (ic := 45) (A := A) hx hb htr hown (by decide +kernel) (by decide +kernel) (hts (.classLink RX0 41 "java/lang/IndexOutOfBoundsException") (by decide +kernel)) (hts (.initialized "java/lang/IndexOutOfBoundsException") (by decide +kernel)) hXf.2.1 (vx_hat (fun w hw9 => hts w (List.mem_cons_of_mem _ (List.mem_append_left _ (List.mem_append_right _ hw9)))) (B := cf_BIO) (by decide +kernel) (hXf.bio _)) (by decide +kernel) hZf.1 hZf.2 hS (hl.1.trans hml.symm) dX0_put_16 dX0_put_19 dX0_put_20 dX0_put_22 dX0_put_25 (fun x h => (hnt x h).elim) (Nat.le_of_ble_eq_true rfl) (Nat.le_of_ble_eq_true rfl) (Nat.le_of_ble_eq_true rfl) (Nat.le_of_ble_eq_true rfl) hlocks (fun t ha hz hq => ⟨(), trivial, ⟨(by have e : cf_pk w h bx bz q v = nI 1 := (by unfold cf_pk; (first | rw [if_pos c6] | rw [if_neg c6] | rw [if_neg (cf_nlt c6)] | rw [if_pos (cf_nle c6)] | skip); (first | rw [if_pos c13] | rw [if_neg c13] | rw [if_neg (cf_nlt c13)] | rw [if_pos (cf_nle c13)] | skip)); exact Or.inl ⟨rfl, e⟩), fun k q hk => (hP k q hk).kept (hq _ (hP k q hk).lt)⟩, hz, fun q h _ => hq q h⟩) hS.2.2 (by omega) (by omega)
set_option maxHeartbeats 4000000 in
set_option maxRecDepth 100000 in
/-- X0_sum -/
theorem kX0_sum (l : Launch) (dC : Nat → ClassId) (dI : Nat → Nat → Nat) (sz : Nat) (h0 a1 a2 : Nat) (cA cB : ClassId) (f g : Nat → Int32) (w h kw kh : Nat) (q : Int32) (sa1 sa2 sa3 : Nat) (hw : w ≤ 8) (hh : h ≤ 8) (htr : l.stackTraces = false) : vx_Met l yX0_sum wsX0_sum ({ frames := 6, cells := 1, slots := 6, locals := 100 }) (va_Pc [.ref h0, .int q] (fun U => U.heap.size = sz ∧ va_P (dC, dI) vwCm [(h0, .inr (0, [.ref a1, .ref a2, .int (nI w), .int (nI h), .int (nI kw), .int (nI kh)])), (a1, .inl (cA, 4096, .inl f)), (a2, .inl (cB, 4096, .inl g))] U.heap ∧ va_K (dC, dI) vwCm [(cA, .int), (cB, .int)] U ∧ va_D (fun _ => True) [(h0, .inr (0, [.ref a1, .ref a2, .int (nI w), .int (nI h), .int (nI kw), .int (nI kh)])), (a1, .inl (cA, 4096, .inl f)), (a2, .inl (cB, 4096, .inl g))] ∧ cf_Xf sa1 sa2 sa3 U ∧ cf_Zf (va_A [(h0, .inr (0, [.ref a1, .ref a2, .int (nI w), .int (nI h), .int (nI kw), .int (nI kh)])), (a1, .inl (cA, 4096, .inl f)), (a2, .inl (cB, 4096, .inl g))] sz) U U.heap)) (va_Ql (fun (r : Int64) (_ : Unit) => ∃ j : Nat, j < 64 ∧ q = nI j ∧ r = cf_su w h (cf_V f) j) (fun (u : Unit) (t : State) => va_P (dC, dI) vwCm [(h0, .inr (0, [.ref a1, .ref a2, .int (nI w), .int (nI h), .int (nI kw), .int (nI kh)])), (a1, .inl (cA, 4096, .inl f)), (a2, .inl (cB, 4096, .inl g))] t.heap ∧ va_K (dC, dI) vwCm [(cA, .int), (cB, .int)] t ∧ va_D (va_A [(h0, .inr (0, [.ref a1, .ref a2, .int (nI w), .int (nI h), .int (nI kw), .int (nI kh)])), (a1, .inl (cA, 4096, .inl f)), (a2, .inl (cB, 4096, .inl g))] sz) [(h0, .inr (0, [.ref a1, .ref a2, .int (nI w), .int (nI h), .int (nI kw), .int (nI kh)])), (a1, .inl (cA, 4096, .inl f)), (a2, .inl (cB, 4096, .inl g))]) (va_A [(h0, .inr (0, [.ref a1, .ref a2, .int (nI w), .int (nI h), .int (nI kw), .int (nI kh)])), (a1, .inl (cA, 4096, .inl f)), (a2, .inl (cB, 4096, .inl g))] sz)) (vx_X (fun _ : Unit => True) (fun (E : String) (_ : Unit) (t : State) => (E = "java/lang/IndexOutOfBoundsException" ∧ cf_ip q = 0) ∧ va_P (dC, dI) vwCm [(h0, .inr (0, [.ref a1, .ref a2, .int (nI w), .int (nI h), .int (nI kw), .int (nI kh)])), (a1, .inl (cA, 4096, .inl f)), (a2, .inl (cB, 4096, .inl g))] t.heap) (va_A [(h0, .inr (0, [.ref a1, .ref a2, .int (nI w), .int (nI h), .int (nI kw), .int (nI kh)])), (a1, .inl (cA, 4096, .inl f)), (a2, .inl (cB, 4096, .inl g))] sz)) 1 6 (va_A [(h0, .inr (0, [.ref a1, .ref a2, .int (nI w), .int (nI h), .int (nI kw), .int (nI kh)])), (a1, .inl (cA, 4096, .inl f)), (a2, .inl (cB, 4096, .inl g))] sz) := by
  refine vx_ofW (cc := cX0_sum) (maxL := 8) (ret := (some .long)) (by decide) rfl ?_
  intro p e s m args below meth c s₁ B hml hnt hv
  obtain ⟨rfl, hsz, hP, hK, hD0, hXf, hZf⟩ := hv
  have hx := B.exec
  have hb := B.bytes
  have hr := B.returns
  have hts := atoms_spec (ws := wsX0_sum) B.pre
  have hown : s.vm.findClass RX0 = some m.cls := findClass_of_methodNamed B.named
  have hlocks := B.notSynchronized
  subst hsz
  have hD := hD0.self (sz := s.heap.size)
  generalize hAe : va_A [(h0, .inr (0, [.ref a1, .ref a2, .int (nI w), .int (nI h), .int (nI kw), .int (nI kh)])), (a1, .inl (cA, 4096, .inl f)), (a2, .inl (cB, 4096, .inl g))] s.heap.size = A at hD hZf ⊢
  have hA : ∀ q : Nat, s.heap.size ≤ q → A q := fun q h => by rw [← hAe]; exact Or.inr h
  have hS : va_S A s.heap s.heap [] := va_S.rf
  have hP : va_P (dC, dI) vwCm [(h0, .inr (0, [.ref a1, .ref a2, .int (nI w), .int (nI h), .int (nI kw), .int (nI kh)])), (a1, .inl (cA, 4096, .inl f)), (a2, .inl (cB, 4096, .inl g))] s.heap := hP
  have hl := lv_entry ([.ref h0, .int q]) (n := 8) (Nat.le_of_ble_eq_true rfl)
  rw [lg_entry_eq]
  generalize (lg_sl ([.ref h0, .int q]) ++ List.replicate (8 - (lg_sl ([.ref h0, .int q])).length) Slot.unset).toArray = ls at hl ⊢
  have hl : lv_has ls 8 [(0, .ref h0), (1, .int q)] := hl
  refine lv_iload_n hx hb dX0_sum_0 rfl (lv_at hl 1 rfl) ?_
  refine vp_callSi (W.runS (As := [.int q]) (rest := []) ⟨hx, hb, hml, hown, hts⟩ (kX0_isPlace l q) (va_cwS 1 hts gX0_sum_X0_isPlace rfl rfl rfl (by decide +kernel) ⟨Nat.le_of_ble_eq_true rfl, Nat.le_of_ble_eq_true rfl⟩) ⟨fun a U g mk q => q, fun U hU hW => ⟨rfl, trivial⟩⟩ rfl rfl hl.1 rfl (lv_room (Nat.le_of_ble_eq_true rfl)) dX0_sum_1 ⟨Nat.le_of_ble_eq_true rfl, Nat.le_of_ble_eq_true rfl⟩) (fun r1 w1 => ?_)
  subst w1
  refine lv_if_ne (tgt := 17) hx hb dX0_sum_4 (by decide) (fun c4 => ?_) (fun c4 => ?_)
  · skip
    obtain ⟨j, hj, eq⟩ := cf_ip_1 c4
    refine lv_lconst (v := 0) hx hb dX0_sum_17 (by decide +kernel) ?_
    refine lv_lstore_n (lv' := [(2, .long 0), (0, .ref h0), (1, .int q)]) hx hb dX0_sum_18 rfl hl (by decide) rfl (fun ls hl => ?_)
    refine lv_iconst (v := nI 0) hx hb dX0_sum_19 (by decide +kernel) ?_
    refine lv_istore (lv' := [(4, .int (nI 0)), (2, .long 0), (0, .ref h0), (1, .int q)]) hx hb dX0_sum_20 hl (by decide) rfl (fun ls hl => ?_)
    have lp22 : ∀ (n22 : Nat) (y0 : Nat) (s0 : Int64), y0 ≤ h → h < y0 + n22 → s0 = cf_fo (fun (a : Int64) y => cf_fo (fun (a : Int64) x => a + (nI (1 + x + 8 * y)).toInt64 * (f (64 * (8 * y + x) + j)).toInt64) w a) y0 0 → ∀ (H : Heap) (locs : List Loc), va_P (dC, dI) vwCm [(h0, .inr (0, [.ref a1, .ref a2, .int (nI w), .int (nI h), .int (nI kw), .int (nI kh)])), (a1, .inl (cA, 4096, .inl f)), (a2, .inl (cB, 4096, .inl g))] H → va_D A [(h0, .inr (0, [.ref a1, .ref a2, .int (nI w), .int (nI h), .int (nI kw), .int (nI kh)])), (a1, .inl (cA, 4096, .inl f)), (a2, .inl (cB, 4096, .inl g))] → va_S A s.heap H locs → ∀ (ls : Array Slot), lv_has ls 8 [(0, .ref h0), (1, .int q), (2, .long s0), (4, .int (nI y0))] → W p l e (headSpec wsX0_sum ({ frames := 6, cells := 1, slots := 6, locals := 100 })).room s m ([.ref h0, .int q] : List Value).toArray below meth c H locs 0 0 (vx_MQ below (va_Ql (fun (r : Int64) (_ : Unit) => ∃ j : Nat, j < 64 ∧ q = nI j ∧ r = cf_su w h (cf_V f) j) (fun (u : Unit) (t : State) => va_P (dC, dI) vwCm [(h0, .inr (0, [.ref a1, .ref a2, .int (nI w), .int (nI h), .int (nI kw), .int (nI kh)])), (a1, .inl (cA, 4096, .inl f)), (a2, .inl (cB, 4096, .inl g))] t.heap ∧ va_K (dC, dI) vwCm [(cA, .int), (cB, .int)] t ∧ va_D A [(h0, .inr (0, [.ref a1, .ref a2, .int (nI w), .int (nI h), .int (nI kw), .int (nI kh)])), (a1, .inl (cA, 4096, .inl f)), (a2, .inl (cB, 4096, .inl g))]) A) (vx_X (fun _ : Unit => True) (fun (E : String) (_ : Unit) (t : State) => (E = "java/lang/IndexOutOfBoundsException" ∧ cf_ip q = 0) ∧ va_P (dC, dI) vwCm [(h0, .inr (0, [.ref a1, .ref a2, .int (nI w), .int (nI h), .int (nI kw), .int (nI kh)])), (a1, .inl (cA, 4096, .inl f)), (a2, .inl (cB, 4096, .inl g))] t.heap) A) ([.ref h0, .int q] : List Value).toArray s 1 6 A) (F0 m 22 ls []) := by
      intro n22
      induction n22 with
      | zero => intro y0 s0 h1 h2; exact absurd h2 (by omega)
      | succ n22 ih22 =>
        intro y0 s0 hk22 hn22 hI H locs hP hD hS ls hl
        refine lv_iload hx hb dX0_sum_22 (lv_at hl 3 rfl) ?_
        refine lv_aload_n hx hb dX0_sum_24 rfl (lv_at hl 0 rfl) ?_
        refine va_get (D := (dC, dI)) (ci := 0) (v := .int (nI h)) (C := RX0) (T := TX0) (N := 6) hx hb hts (by decide +kernel) hown hK hP 0 rfl rfl 3 (by decide) (hts (.fieldLink RX0 17 "CoefTurns" "height" "I") (by decide +kernel)) (fun _ h9 => h9) rfl dX0_sum_25 ?_
        refine lv_icmp_ge (tgt := 89) hx hb dX0_sum_28 (by decide) (fun c28 => ?_) (fun c28 => ?_)
        · skip
          have c28 := (nI_leI (a := h) (b := y0) (by omega) (by omega)).mp c28
          refine lv_lload_n hx hb dX0_sum_89 rfl (lv_at hl 2 rfl) ?_
          have hP9 := hP.sub (ws' := [(h0, .inr (0, [.ref a1, .ref a2, .int (nI w), .int (nI h), .int (nI kw), .int (nI kh)])), (a1, .inl (cA, 4096, .inl f)), (a2, .inl (cB, 4096, .inl g))]) [0, 1, 2] rfl
          have hD9 := hD.sub (ws' := [(h0, .inr (0, [.ref a1, .ref a2, .int (nI w), .int (nI h), .int (nI kw), .int (nI kh)])), (a1, .inl (cA, 4096, .inl f)), (a2, .inl (cB, 4096, .inl g))]) [0, 1, 2] (by decide) rfl
          refine W.widen (k := 1) (n := 6) (by omega) (by omega) ?_
          refine vx_ret ?_
          exact W.lret hx hb hr (fun t ht hW => ⟨⟨_, (), rfl, ⟨j, hj, eq, (by have e : y0 = h := (by omega); rw [hI, e]; rfl)⟩, by rw [ht]; exact hP9, va_K.moved hW.alike hK, hD9⟩, hS.F ht⟩) hS.2.2 dX0_sum_90
        · skip
          have c28 := mt (nI_leI (a := h) (b := y0) (by omega) (by omega)).mpr c28
          refine lv_iconst (v := nI 0) hx hb dX0_sum_31 (by decide +kernel) ?_
          refine lv_istore (lv' := [(5, .int (nI 0)), (0, .ref h0), (1, .int q), (2, .long s0), (4, .int (nI y0))]) hx hb dX0_sum_32 hl (by decide) rfl (fun ls hl => ?_)
          have lp34 : ∀ (n34 : Nat) (x0 : Nat) (s1 : Int64), x0 ≤ w → w < x0 + n34 → s1 = cf_fo (fun (a : Int64) x => a + (nI (1 + x + 8 * y0)).toInt64 * (f (64 * (8 * y0 + x) + j)).toInt64) x0 s0 → ∀ (H : Heap) (locs : List Loc), va_P (dC, dI) vwCm [(h0, .inr (0, [.ref a1, .ref a2, .int (nI w), .int (nI h), .int (nI kw), .int (nI kh)])), (a1, .inl (cA, 4096, .inl f)), (a2, .inl (cB, 4096, .inl g))] H → va_D A [(h0, .inr (0, [.ref a1, .ref a2, .int (nI w), .int (nI h), .int (nI kw), .int (nI kh)])), (a1, .inl (cA, 4096, .inl f)), (a2, .inl (cB, 4096, .inl g))] → va_S A s.heap H locs → ∀ (ls : Array Slot), lv_has ls 8 [(0, .ref h0), (1, .int q), (2, .long s1), (4, .int (nI y0)), (5, .int (nI x0))] → W p l e (headSpec wsX0_sum ({ frames := 6, cells := 1, slots := 6, locals := 100 })).room s m ([.ref h0, .int q] : List Value).toArray below meth c H locs 0 0 (vx_MQ below (va_Ql (fun (r : Int64) (_ : Unit) => ∃ j : Nat, j < 64 ∧ q = nI j ∧ r = cf_su w h (cf_V f) j) (fun (u : Unit) (t : State) => va_P (dC, dI) vwCm [(h0, .inr (0, [.ref a1, .ref a2, .int (nI w), .int (nI h), .int (nI kw), .int (nI kh)])), (a1, .inl (cA, 4096, .inl f)), (a2, .inl (cB, 4096, .inl g))] t.heap ∧ va_K (dC, dI) vwCm [(cA, .int), (cB, .int)] t ∧ va_D A [(h0, .inr (0, [.ref a1, .ref a2, .int (nI w), .int (nI h), .int (nI kw), .int (nI kh)])), (a1, .inl (cA, 4096, .inl f)), (a2, .inl (cB, 4096, .inl g))]) A) (vx_X (fun _ : Unit => True) (fun (E : String) (_ : Unit) (t : State) => (E = "java/lang/IndexOutOfBoundsException" ∧ cf_ip q = 0) ∧ va_P (dC, dI) vwCm [(h0, .inr (0, [.ref a1, .ref a2, .int (nI w), .int (nI h), .int (nI kw), .int (nI kh)])), (a1, .inl (cA, 4096, .inl f)), (a2, .inl (cB, 4096, .inl g))] t.heap) A) ([.ref h0, .int q] : List Value).toArray s 1 6 A) (F0 m 34 ls []) := by
            intro n34
            induction n34 with
            | zero => intro x0 s1 h1 h2; exact absurd h2 (by omega)
            | succ n34 ih34 =>
              intro x0 s1 hk34 hn34 hJ H locs hP hD hS ls hl
              refine lv_iload hx hb dX0_sum_34 (lv_at hl 4 rfl) ?_
              refine lv_aload_n hx hb dX0_sum_36 rfl (lv_at hl 0 rfl) ?_
              refine va_get (D := (dC, dI)) (ci := 0) (v := .int (nI w)) (C := RX0) (T := TX0) (N := 6) hx hb hts (by decide +kernel) hown hK hP 0 rfl rfl 2 (by decide) (hts (.fieldLink RX0 13 "CoefTurns" "width" "I") (by decide +kernel)) (fun _ h9 => h9) rfl dX0_sum_37 ?_
              refine lv_icmp_ge (tgt := 83) hx hb dX0_sum_40 (by decide) (fun c40 => ?_) (fun c40 => ?_)
              · skip
                have c40 := (nI_leI (a := w) (b := x0) (by omega) (by omega)).mp c40
                refine lv_iinc (v := nI (y0 + 1)) (lv' := [(4, .int (nI (y0 + 1))), (0, .ref h0), (1, .int q), (2, .long s1), (5, .int (nI x0))]) hx hb dX0_sum_83 hl (k := 3) rfl (by rw [← nI_add]; rfl) (by decide) rfl (fun ls hl => ?_)
                refine lv_goto (tgt := 22) hx hb dX0_sum_86 (by decide) ?_
                exact ih22 (y0 + 1) s1 (by omega) (by omega) (by have e : x0 = w := (by omega); rw [hJ, e, hI]; rfl) H locs hP hD hS ls (lv_sub hl [1, 2, 3, 0] rfl)
              · skip
                have c40 := mt (nI_leI (a := w) (b := x0) (by omega) (by omega)).mpr c40
                refine lv_iconst (v := nI 1) hx hb dX0_sum_43 (by decide +kernel) ?_
                refine lv_iload hx hb dX0_sum_44 (lv_at hl 4 rfl) ?_
                refine lv_iadd hx hb dX0_sum_46 ?_
                refine cf_top (nI_add _ _) ?_
                refine lv_bipush (v := nI 8) hx hb dX0_sum_47 (by decide +kernel) ?_
                refine lv_iload hx hb dX0_sum_49 (lv_at hl 3 rfl) ?_
                refine lv_imul hx hb dX0_sum_51 ?_
                refine cf_top (pk_mul _ _) ?_
                refine lv_iadd hx hb dX0_sum_52 ?_
                refine cf_top (nI_add _ _) ?_
                refine lv_i2l hx hb dX0_sum_53 rfl ?_
                refine lv_lstore (lv' := [(6, .long ((nI (1 + x0 + 8 * y0)).toInt64)), (0, .ref h0), (1, .int q), (2, .long s1), (4, .int (nI y0)), (5, .int (nI x0))]) hx hb dX0_sum_54 hl (by decide) rfl (fun ls hl => ?_)
                refine lv_lload_n hx hb dX0_sum_56 rfl (lv_at hl 3 rfl) ?_
                refine lv_lload hx hb dX0_sum_57 (lv_at hl 0 rfl) ?_
                refine lv_aload_n hx hb dX0_sum_59 rfl (lv_at hl 1 rfl) ?_
                refine va_get (D := (dC, dI)) (ci := 0) (v := .ref a1) (C := RX0) (T := TX0) (N := 6) hx hb hts (by decide +kernel) hown hK hP 0 rfl rfl 0 (by decide) (hts (.fieldLink RX0 26 "CoefTurns" "cells" "[I") (by decide +kernel)) (fun _ h9 => h9) rfl dX0_sum_60 ?_
                refine lv_iload hx hb dX0_sum_63 (lv_at hl 5 rfl) ?_
                refine lv_iload hx hb dX0_sum_65 (lv_at hl 4 rfl) ?_
                refine vp_callSi (W.runS (As := [.int (nI x0), .int (nI y0)]) (rest := [.ref a1, .long ((nI (1 + x0 + 8 * y0)).toInt64), .long s1]) ⟨hx, hb, hml, hown, hts⟩ (kX0_blockStart l x0 y0) (va_cwS 2 hts gX0_sum_X0_blockStart rfl rfl rfl (by decide +kernel) ⟨Nat.le_of_ble_eq_true rfl, Nat.le_of_ble_eq_true rfl⟩) ⟨fun a U g mk q => q, fun U hU hW => ⟨rfl, trivial⟩⟩ rfl rfl hl.1 rfl (lv_room (Nat.le_of_ble_eq_true rfl)) dX0_sum_67 ⟨Nat.le_of_ble_eq_true rfl, Nat.le_of_ble_eq_true rfl⟩) (fun r67 w67 => ?_)
                subst w67
                refine lv_iload_n hx hb dX0_sum_70 rfl (lv_at hl 2 rfl) ?_
                refine cf_top eq ?_
                refine lv_iadd hx hb dX0_sum_71 ?_
                refine cf_top (nI_add _ _) ?_
                refine cf_iald (D := (dC, dI)) hx hb hK hP 1 0 rfl rfl (k := 64 * (8 * y0 + x0) + j) (by omega) (by decide) dX0_sum_72 ?_
                refine lv_i2l hx hb dX0_sum_73 rfl ?_
                refine lv_lmul hx hb dX0_sum_74 ?_
                refine lv_ladd hx hb dX0_sum_75 ?_
                refine lv_lstore_n (lv' := [(2, .long (s1 + (((nI (1 + x0 + 8 * y0)).toInt64) * ((f (64 * (8 * y0 + x0) + j)).toInt64)))), (6, .long ((nI (1 + x0 + 8 * y0)).toInt64)), (0, .ref h0), (1, .int q), (4, .int (nI y0)), (5, .int (nI x0))]) hx hb dX0_sum_76 rfl hl (by decide) rfl (fun ls hl => ?_)
                refine lv_iinc (v := nI (x0 + 1)) (lv' := [(5, .int (nI (x0 + 1))), (2, .long (s1 + (((nI (1 + x0 + 8 * y0)).toInt64) * ((f (64 * (8 * y0 + x0) + j)).toInt64)))), (6, .long ((nI (1 + x0 + 8 * y0)).toInt64)), (0, .ref h0), (1, .int q), (4, .int (nI y0))]) hx hb dX0_sum_77 hl (k := 5) rfl (by rw [← nI_add]; rfl) (by decide) rfl (fun ls hl => ?_)
                refine lv_goto (tgt := 34) hx hb dX0_sum_80 (by decide) ?_
                exact ih34 (x0 + 1) (s1 + (((nI (1 + x0 + 8 * y0)).toInt64) * ((f (64 * (8 * y0 + x0) + j)).toInt64))) (by omega) (by omega) (by rw [cf_fo_1, ← hJ]) H locs hP hD hS ls (lv_sub hl [3, 4, 1, 5, 0] rfl)
          exact lp34 (w + 1) 0 s0 (by omega) (by omega) rfl H locs hP hD hS ls (lv_sub hl [1, 2, 3, 4, 0] rfl)
    exact lp22 (h + 1) 0 0 (by omega) (by omega) rfl s.heap [] hP hD hS ls (lv_sub hl [2, 3, 1, 0] rfl)
  · skip
    exact vx_throwS (own := RX0) (cls := "java/lang/IndexOutOfBoundsException") (text := "no such place") (names := ["java/lang/RuntimeException", "java/lang/Exception"]) (ik := 41) (is := 98) (ic := 45) (A := A) hx hb htr hown (by decide +kernel) (by decide +kernel) (hts (.classLink RX0 41 "java/lang/IndexOutOfBoundsException") (by decide +kernel)) (hts (.initialized "java/lang/IndexOutOfBoundsException") (by decide +kernel)) hXf.2.2.2 (vx_hat (fun w hw9 => hts w (List.mem_cons_of_mem _ (List.mem_append_right _ hw9))) (B := cf_BIO) (by decide +kernel) (hXf.bio _)) (by decide +kernel) hZf.1 hZf.2 hS (hl.1.trans hml.symm) dX0_sum_7 dX0_sum_10 dX0_sum_11 dX0_sum_13 dX0_sum_16 (fun x h => (hnt x h).elim) (Nat.le_of_ble_eq_true rfl) (Nat.le_of_ble_eq_true rfl) (Nat.le_of_ble_eq_true rfl) (Nat.le_of_ble_eq_true rfl) hlocks (fun t ha hz hq => ⟨(), trivial, ⟨⟨rfl, c4⟩, fun k q hk => (hP k q hk).kept (hq _ (hP k q hk).lt)⟩, hz, fun q h _ => hq q h⟩) hS.2.2 (by omega) (by omega)
end
