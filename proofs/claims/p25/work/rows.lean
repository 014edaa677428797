section
-- ===== PART A: goes FIRST, ahead of the names: the tables' words, and 'selects' of the private methods out of them =====
/-- a private method of a class that the tables say can be made, by its rows of tables_1 -/
def lw_okq (q : MethodName × Nat) : Prop := (q.1.cls ≠ "java/lang/invoke/MethodHandle" ∧ q.1.cls ≠ "java/lang/invoke/VarHandle") ∧ Cond.instantiable q.1.cls q.2 ∈ tables_1 ∧ Cond.privateMethod q.1 ∈ tables_1 ∧ Cond.instanceMethod q.1 ∈ tables_1
theorem lw_p0 : lw_okq (⟨"java/lang/Throwable", "fillInStackTrace", "(I)Ljava/lang/Throwable;"⟩, 6) := ⟨⟨by decide +kernel, by decide +kernel⟩, List.mem_of_getElem? (i := 176) (by decide +kernel), List.mem_of_getElem? (i := 174) (by decide +kernel), List.mem_of_getElem? (i := 175) (by decide +kernel)⟩
theorem lw_p1 : lw_okq (⟨"java/util/ArrayList", "add", "(Ljava/lang/Object;[Ljava/lang/Object;I)V"⟩, 3) := ⟨⟨by decide +kernel, by decide +kernel⟩, List.mem_of_getElem? (i := 31) (by decide +kernel), List.mem_of_getElem? (i := 265) (by decide +kernel), List.mem_of_getElem? (i := 266) (by decide +kernel)⟩
theorem lw_p2 : lw_okq (⟨"java/util/ArrayList", "grow", "()[Ljava/lang/Object;"⟩, 3) := ⟨⟨by decide +kernel, by decide +kernel⟩, List.mem_of_getElem? (i := 31) (by decide +kernel), List.mem_of_getElem? (i := 269) (by decide +kernel), List.mem_of_getElem? (i := 270) (by decide +kernel)⟩
theorem lw_p3 : lw_okq (⟨"java/util/ArrayList", "grow", "(I)[Ljava/lang/Object;"⟩, 3) := ⟨⟨by decide +kernel, by decide +kernel⟩, List.mem_of_getElem? (i := 31) (by decide +kernel), List.mem_of_getElem? (i := 273) (by decide +kernel), List.mem_of_getElem? (i := 274) (by decide +kernel)⟩
theorem lw_p4 : lw_okq (⟨"FieldStore", "jobAt", "(I)LFieldStore$Job;"⟩, 3) := ⟨⟨by decide +kernel, by decide +kernel⟩, List.mem_of_getElem? (i := 23) (by decide +kernel), List.mem_of_getElem? (i := 328) (by decide +kernel), List.mem_of_getElem? (i := 329) (by decide +kernel)⟩
theorem lw_p5 : lw_okq (⟨"FieldStore", "deviceAt", "(I)LFieldStore$Device;"⟩, 3) := ⟨⟨by decide +kernel, by decide +kernel⟩, List.mem_of_getElem? (i := 23) (by decide +kernel), List.mem_of_getElem? (i := 423) (by decide +kernel), List.mem_of_getElem? (i := 424) (by decide +kernel)⟩
theorem lw_p6 : lw_okq (⟨"FieldStore", "copyJobs", "(ILFieldStore$Device;I)V"⟩, 3) := ⟨⟨by decide +kernel, by decide +kernel⟩, List.mem_of_getElem? (i := 23) (by decide +kernel), List.mem_of_getElem? (i := 439) (by decide +kernel), List.mem_of_getElem? (i := 440) (by decide +kernel)⟩
theorem lw_p7 : lw_okq (⟨"FieldStore", "deliver", "(ILFieldStore$Device;LFieldStore$Act;)I"⟩, 3) := ⟨⟨by decide +kernel, by decide +kernel⟩, List.mem_of_getElem? (i := 23) (by decide +kernel), List.mem_of_getElem? (i := 590) (by decide +kernel), List.mem_of_getElem? (i := 591) (by decide +kernel)⟩
theorem lw_p8 : lw_okq (⟨"FieldStore", "deliverMaking", "(ILFieldStore$Device;LFieldStore$Act;)I"⟩, 3) := ⟨⟨by decide +kernel, by decide +kernel⟩, List.mem_of_getElem? (i := 23) (by decide +kernel), List.mem_of_getElem? (i := 594) (by decide +kernel), List.mem_of_getElem? (i := 595) (by decide +kernel)⟩
theorem lw_p9 : lw_okq (⟨"FieldStore", "deliverChange", "(ILFieldStore$Device;LFieldStore$Act;)I"⟩, 3) := ⟨⟨by decide +kernel, by decide +kernel⟩, List.mem_of_getElem? (i := 23) (by decide +kernel), List.mem_of_getElem? (i := 603) (by decide +kernel), List.mem_of_getElem? (i := 604) (by decide +kernel)⟩
theorem lw_p10 : lw_okq (⟨"FieldStore", "refusedAt", "(II)LFieldStore$Act;"⟩, 3) := ⟨⟨by decide +kernel, by decide +kernel⟩, List.mem_of_getElem? (i := 23) (by decide +kernel), List.mem_of_getElem? (i := 639) (by decide +kernel), List.mem_of_getElem? (i := 640) (by decide +kernel)⟩
def lw_privs_1 : List (MethodName × Nat) := [(⟨"java/lang/Throwable", "fillInStackTrace", "(I)Ljava/lang/Throwable;"⟩, 6), (⟨"java/util/ArrayList", "add", "(Ljava/lang/Object;[Ljava/lang/Object;I)V"⟩, 3), (⟨"java/util/ArrayList", "grow", "()[Ljava/lang/Object;"⟩, 3), (⟨"java/util/ArrayList", "grow", "(I)[Ljava/lang/Object;"⟩, 3), (⟨"FieldStore", "jobAt", "(I)LFieldStore$Job;"⟩, 3), (⟨"FieldStore", "deviceAt", "(I)LFieldStore$Device;"⟩, 3), (⟨"FieldStore", "copyJobs", "(ILFieldStore$Device;I)V"⟩, 3), (⟨"FieldStore", "deliver", "(ILFieldStore$Device;LFieldStore$Act;)I"⟩, 3), (⟨"FieldStore", "deliverMaking", "(ILFieldStore$Device;LFieldStore$Act;)I"⟩, 3), (⟨"FieldStore", "deliverChange", "(ILFieldStore$Device;LFieldStore$Act;)I"⟩, 3), (⟨"FieldStore", "refusedAt", "(II)LFieldStore$Act;"⟩, 3)]
theorem lw_r1 : ∀ q ∈ lw_privs_1, lw_okq q := List.forall_mem_cons.mpr ⟨lw_p0, List.forall_mem_cons.mpr ⟨lw_p1, List.forall_mem_cons.mpr ⟨lw_p2, List.forall_mem_cons.mpr ⟨lw_p3, List.forall_mem_cons.mpr ⟨lw_p4, List.forall_mem_cons.mpr ⟨lw_p5, List.forall_mem_cons.mpr ⟨lw_p6, List.forall_mem_cons.mpr ⟨lw_p7, List.forall_mem_cons.mpr ⟨lw_p8, List.forall_mem_cons.mpr ⟨lw_p9, List.forall_mem_cons.mpr ⟨lw_p10, fun _ h => absurd h List.not_mem_nil⟩⟩⟩⟩⟩⟩⟩⟩⟩⟩⟩
def lw_privs : List (MethodName × Nat) := lw_privs_1
def lw_tbl : List Cond := k2_sels lw_privs ++ tables_1
theorem lw_privs_ok : ∀ q ∈ lw_privs, lw_okq q := lw_r1
end
section
/-! ===== BEGIN words of one list among another's, by their places ===== -/
theorem goodIn_r {big : List Cond} (ws : List Cond) (ps : List Nat) (hp : ws = ps.filterMap (fun i => big[i]?)) (h : ws.all goodWord = true) : GoodIn big ws := by
  intro w hw
  have h1 := List.all_eq_true.mp h w hw
  rw [hp] at hw
  obtain ⟨i, -, hi⟩ := List.mem_filterMap.mp hw
  have hm : w ∈ big := by first | exact List.mem_of_getElem? hi | exact List.getElem?_mem hi
  exact ⟨hm, good_of_word h1⟩
theorem goodIn_app {big a b : List Cond} (ha : GoodIn big a) (hb : GoodIn big b) : GoodIn big (a ++ b) := fun w h => (List.mem_append.mp h).elim (ha w) (hb w)
theorem goodIn_ca {big a b : List Cond} {c : Cond} (ha : GoodIn big (c :: a)) (hb : GoodIn big b) : GoodIn big (c :: (a ++ b)) := fun w h => (List.mem_cons.mp h).elim (fun e => ha w (List.mem_cons.mpr (Or.inl e))) (fun h => (List.mem_append.mp h).elim (fun h => ha w (List.mem_cons.mpr (Or.inr h))) (hb w))
theorem goodIn_sub {big ws : List Cond} (hm : ∀ w ∈ ws, w ∈ big) (h : ws.all goodWord = true) : GoodIn big ws := fun w hw => ⟨hm w hw, good_of_word (List.all_eq_true.mp h w hw)⟩
/-! ===== END ===== -/

/-! ===== BEGIN exceptions that leave a method, and their catching by the caller (launches without stack traces) ===== -/
section VXA
/-! The laws vx_back, vx_callV, vx_callS, vx_callSW, vx_throw0, vx_throwS follow proofs of the library, with one case more: JvmDerived/Free/Laws.lean (Back.of_free), Shelf42/LK1.lean (callV, callS), Shelf/KitTraced.lean (throwNew0V, throwNewS). -/
/-- where a method has thrown q: the class by its name, the cell, what was written, the world -/
def vx_T (XC : String → State → State → Prop) (st : State) (q : Addr) (t : State) (mc ms : Nat) (free : Addr → Prop) : Prop :=
  ∃ (E : String) (ce : Cell) (L : List Loc), XC E st t ∧ t.heap[q]? = some ce ∧ ce.vm = .none ∧ st.vm.findClass E = some ce.cls ∧ st.WarmedH t.vm ∧ st.sameButNew ({ t with vm := st.vm } : State) L mc ms ∧ ∀ z ∈ L, free z.base
def vx_Q (Qc : Array Value → State → Outcome → State → Prop) (XC : String → State → State → Prop) (mc ms : Nat) (free : Addr → Prop) : Array Value → State → Outcome → State → Prop := fun a st o t =>
  (Qc a st o t ∧ ∃ L, FrameEnd st o t L mc ms ∧ ∀ q ∈ L, free q.base) ∨ ∃ q, o = .threw q ∧ vx_T XC st q t mc ms free
/-- a callee that returns or throws -/
def vx_Met (l : Launch) (y : MethodName) (ws : List Cond) (rm : Room) (Pc : Array Value → State → Prop) (Qc : Array Value → State → Outcome → State → Prop) (XC : String → State → State → Prop) (mc ms : Nat) (free : Addr → Prop) : Prop :=
  MetFree l y (headSpec ws rm) Pc (fun _ _ _ _ _ => True) (vx_Q Qc XC mc ms free)
def vx_Post (XC : String → State → State → Prop) (mc ms : Nat) (free : Addr → Prop) : Pt → Array Value → Addr → Pt → Prop := fun A a q B =>
  ∃ (g : JFrame) (mk : MethodId) (t : State) (L : List Loc) (E : String) (ce : Cell), B.U.heap = t.heap ∧ B.U.vm = t.vm ∧ XC E (A.U.calling g mk a) t ∧ t.heap[q]? = some ce ∧ ce.vm = .none ∧ A.U.vm.findClass E = some ce.cls ∧ B.locs = A.locs ++ L ∧ (∀ z ∈ L, free z.base) ∧ B.cells = A.cells + mc ∧ B.slots = A.slots + ms
def vx_Back (l : Launch) (R : Room) (p : Program) (e : Env) (below : List Frame) (s : State) (sargs : Array Value) (y : MethodName) (len W9 : Nat)
    (Pre : Pt → Array Value → Prop) (Post : Pt → Array Value → Option Value → Pt → Prop) (PostX : Pt → Array Value → Addr → Pt → Prop) : Prop :=
  ∀ (m : MethodId) (meth : Method) (c : Code) (A : Pt) (g : JFrame) (ig : Instr) (mk : MethodId) (a : Array Value),
    Stand p l e R s m sargs below meth c A.U A.locs A.cells A.slots → g.method = m → g.locals.size = c.maxLocals → decode c.code g.pc = .ok (ig, len) →
    2 * g.monitorRoom + (g.stack.map fun v => v.category).sum ≤ W9 → A.U.methodNamed? y = some mk → Pre A a →
    (∃ (v : Option Value) (B : Pt), Stand p l e R s m sargs below meth c B.U B.locs B.cells B.slots ∧ Post A a v B ∧
      Steps p.tables e below (doInvoke e (A.U.setTop g) [] mk a).1 (B.U.setTop { g with pc := g.pc + len, stack := v.toList ++ g.stack })) ∨
    (∃ (q : Addr) (B : Pt), Stand p l e R s m sargs below meth c B.U B.locs B.cells B.slots ∧ PostX A a q B ∧
      Steps p.tables e below (doInvoke e (A.U.setTop g) [] mk a).1 ((B.U.setTop g).pushFrame (.throwing q)))
section Payer
variable {l : Launch} {R : Room} {p : Program} {e : Env} {below : List Frame} {s : State} {sargs : Array Value} {y : MethodName} {len W9 : Nat}
theorem vx_back {ws : List Cond} {rm : Room} {Pc : Array Value → State → Prop} {Qc : Array Value → State → Outcome → State → Prop} {XC : String → State → State → Prop} {mc ms : Nat} {free : Addr → Prop} {bytes : ByteArray} {maxL : Nat} {ret : Option FieldType}
    (hM : vx_Met l y ws rm Pc Qc XC mc ms free) (hblind : FrameBlind Pc) (hrc : rm.cells = mc) (hrs : rm.slots = ms)
    (hframes : rm.frames + 1 ≤ R.frames) (hlocals : W9 + (maxL + 11) + rm.locals ≤ R.locals)
    (hws : ∀ w ∈ ws, ∀ a' U, s.WarmedH U.vm → w.before a' U = true) (hcode : Cond.code y bytes maxL ret ∈ ws) (hinit : ∀ a' U, s.WarmedH U.vm → (Cond.initialized y.cls).before a' U = true) :
    vx_Back l R p e below s sargs y len W9 (PreOf R mc ms Pc) (PostOf Qc mc ms free) (vx_Post XC mc ms free) := by
  intro m meth c A g ig mk a X hg hsize hdg hW hn hp
  have h1 : (headSpec ws rm).pre.before a A.U = true := atoms_intro fun w hw => hws w hw _ _ X.warmed
  have h2 : (Cond.code y bytes maxL ret).before a A.U = true := hws _ hcode _ _ X.warmed
  have h3 : (Cond.initialized y.cls).before a A.U = true := hinit _ _ X.warmed
  have h4 : A.cells + (headSpec ws rm).room.cells ≤ R.cells := by rw [show (headSpec ws rm).room.cells = mc from hrc]; exact hp.1
  have h5 : A.slots + (headSpec ws rm).room.slots ≤ R.slots := by rw [show (headSpec ws rm).room.slots = ms from hrs]; exact hp.2.1
  have hPc : Pc a (A.U.calling g mk a) := hblind _ _ _ _ hp.2.2
  obtain ⟨U, Ls, c0, s0⟩ := A
  dsimp only [Pt.U, Pt.locs, Pt.cells, Pt.slots] at h1 h2 h3 h4 h5 X hn hPc ⊢
  obtain ⟨methY, cY, hmY, hcY, -, hlY, -, -, -, -⟩ := Cond.code_spec hn h2
  obtain ⟨kY, hkY, -⟩ := className_of_methodNamed hn
  have hinitY : kY.init = .initialized := Cond.initialized_spec (findClass_of_methodNamed hn) hkY h3
  have h : At U g.method c below := by rw [hg]; exact X.here
  have hlocals9 : W9 + (maxL + 11) + (headSpec ws rm).room.locals ≤ R.locals := hlocals
  have happ : (headSpec ws rm).appliesLoose y e.platform (U.calling g mk a) = true :=
    Spec.appliesLoose_calling (g := g) h hdg hn hkY hinitY
      (X.room_calling (g := g) (R' := (headSpec ws rm).room) hsize hmY hcY hframes (by rw [hlY]; omega) h4 h5) h1
  obtain ⟨mid, hmid⟩ := h.above
  have hfr : (U.setTop g).frames = (.java g :: mid) ++ below := by rw [State.frames_setTop' g h.top, hmid]; rfl
  obtain ⟨o, s₂, hsteps, -, hend, hq⟩ := Steps.callFree hM p X.admits X.cas X.clock (acts := []) hfr happ hPc trivial
  have hq' : vx_Q Qc XC mc ms free a (U.calling g mk a) o s₂ := hq
  rw [State.frames_setTop' g h.top] at hend
  obtain ⟨g₀, hg0⟩ := Option.isSome_iff_exists.mp h.top
  obtain ⟨r, hr⟩ := State.topJava?_eq_some.mp hg0
  have hr' : (({ U with heap := s₂.heap, slotsUsed := s₂.slotsUsed } : State).setVm s₂.vm).frames = .java g₀ :: r := hr
  rcases hq' with ⟨hqc, L, hfe, hL⟩ | ⟨q, rfl, E, ce, L, hx, hce, hcv, hcl, hW₂, hsm, hL⟩
  · obtain ⟨⟨v, rfl⟩, hW₂, e2, q2, q3, q4, q5, q6⟩ := id hfe
    have e3 : s₂ = ({ (U.calling g mk a).setFrames s₂.frames with heap := s₂.heap, slotsUsed := s₂.slotsUsed } : State).setVm s₂.vm := by
      have : s₂ = ({ s₂ with vm := (U.calling g mk a).vm } : State).setVm s₂.vm := rfl
      rw [e2] at this
      exact this
    obtain ⟨c₂, i₂, len₂, hc₂, hd₂, hf₂⟩ := hend
    have hW' : U.WarmedH s₂.vm := hW₂
    have hcc : c₂ = c := by
      have h1 : s₂.code? g.method = U.code? g.method := by
        rw [State.code?_eq, State.code?_eq, hW'.alike.method?]
      exact Option.some.inj (hc₂.symm.trans (h1.trans h.code))
    subst hcc
    have hlen : len₂ = len := by rw [hdg] at hd₂; cases hd₂; rfl
    subst hlen
    have hs₂ : s₂ = (({ U with heap := s₂.heap, slotsUsed := s₂.slotsUsed } : State).setVm s₂.vm).setTop { g with pc := g.pc + len₂, stack := v.toList ++ g.stack } := by
      refine e3.trans ?_
      rw [hf₂, State.calling_eq h.top, State.setFrames_setFrames, State.setTop_of_frames _ hr', hr]
      rfl
    have hsame : U.sameButNew ({ U with heap := s₂.heap, slotsUsed := s₂.slotsUsed } : State) L mc ms := by
      refine ⟨?_, q2, q3, q4, q5, q6⟩
      obtain ⟨t, ht, -⟩ := State.frames_cons hr
      show ({ U with heap := s₂.heap, slotsUsed := s₂.slotsUsed } : State) = { U.setFrames U.frames with heap := s₂.heap, slotsUsed := s₂.slotsUsed }
      rw [State.setFrames_self ht]
    subst hg
    refine Or.inl ⟨v, ⟨(({ U with heap := s₂.heap, slotsUsed := s₂.slotsUsed } : State).setVm s₂.vm), Ls ++ L, c0 + mc, s0 + ms⟩,
      ⟨X.admits, X.cas, X.clock, X.frames, X.room, X.hears, X.method, X.code, (X.here.setHeapUsed s₂.heap s₂.slotsUsed).setVm hW'.alike, X.tail, State.WarmedH.trans X.warmed hW', X.limits, X.bytes, X.same.trans (hsame.setVm s.vm)⟩,
      ⟨g, mk, s₂, L, rfl, rfl, hqc, rfl, hL, rfl, rfl⟩, ?_⟩
    show Steps p.tables e below _ ((({ U with heap := s₂.heap, slotsUsed := s₂.slotsUsed } : State).setVm s₂.vm).setTop { g with pc := g.pc + len₂, stack := v.toList ++ g.stack })
    rw [← hs₂]
    exact hsteps
  · obtain ⟨e2, q2, q3, q4, q5, q6⟩ := id hsm
    have e3 : s₂ = ({ (U.calling g mk a).setFrames s₂.frames with heap := s₂.heap, slotsUsed := s₂.slotsUsed } : State).setVm s₂.vm := by
      have : s₂ = ({ s₂ with vm := (U.calling g mk a).vm } : State).setVm s₂.vm := rfl
      rw [e2] at this
      exact this
    have hf₂ : s₂.frames = .throwing q :: .java g :: U.frames.tail := hend
    have hW' : U.WarmedH s₂.vm := hW₂
    have hs₂ : s₂ = ((({ U with heap := s₂.heap, slotsUsed := s₂.slotsUsed } : State).setVm s₂.vm).setTop g).pushFrame (.throwing q) := by
      refine e3.trans ?_
      rw [hf₂, State.calling_eq h.top, State.setFrames_setFrames, State.pushFrame, State.frames_setTop _ hr', State.setTop_of_frames _ hr', State.setFrames_setFrames, hr]
      rfl
    have hsame : U.sameButNew ({ U with heap := s₂.heap, slotsUsed := s₂.slotsUsed } : State) L mc ms := by
      refine ⟨?_, q2, q3, q4, q5, q6⟩
      obtain ⟨t, ht, -⟩ := State.frames_cons hr
      show ({ U with heap := s₂.heap, slotsUsed := s₂.slotsUsed } : State) = { U.setFrames U.frames with heap := s₂.heap, slotsUsed := s₂.slotsUsed }
      rw [State.setFrames_self ht]
    subst hg
    refine Or.inr ⟨q, ⟨(({ U with heap := s₂.heap, slotsUsed := s₂.slotsUsed } : State).setVm s₂.vm), Ls ++ L, c0 + mc, s0 + ms⟩,
      ⟨X.admits, X.cas, X.clock, X.frames, X.room, X.hears, X.method, X.code, (X.here.setHeapUsed s₂.heap s₂.slotsUsed).setVm hW'.alike, X.tail, State.WarmedH.trans X.warmed hW', X.limits, X.bytes, X.same.trans (hsame.setVm s.vm)⟩,
      ⟨g, mk, s₂, L, E, ce, rfl, rfl, hx, hce, hcv, hcl, rfl, hL, rfl, rfl⟩, ?_⟩
    show Steps p.tables e below _ (((({ U with heap := s₂.heap, slotsUsed := s₂.slotsUsed } : State).setVm s₂.vm).setTop g).pushFrame (.throwing q))
    rw [← hs₂]
    exact hsteps
end Payer
section Calls
variable {p : Program} {l : Launch} {e : Env} {R : Room} {s : State} {m : MethodId} {args : Array Value} {below : List Frame} {meth : Method} {c : Code} {T : State} {locs : List Loc} {cells slots : Nat}
theorem vx_callV (X : Stand p l e R s m args below meth c T locs cells slots) (hexec : p.tables.exec = Jvm.exec) {own C : String} {index : Nat} {y : MethodName} {bytes : ByteArray} {maxL : Nat} {ret : Option FieldType}
    (hown : s.vm.findClass own = some m.cls) (hlink : (Cond.methodLink own index y).before args s = true) (hinst : (Cond.instanceMethod y).before args s = true) (hsel : (Cond.selects C y y).before args s = true)
    (hcode : (Cond.code y bytes maxL ret).before args s = true) (hy : y.cls ≠ "java/lang/invoke/MethodHandle" ∧ y.cls ≠ "java/lang/invoke/VarHandle")
    {W9 : Nat} {Pre : Pt → Array Value → Prop} {Post : Pt → Array Value → Option Value → Pt → Prop} {PostX : Pt → Array Value → Addr → Pt → Prop} (hK : vx_Back l R p e below s args y 3 W9 Pre Post PostX)
    {b : Addr} {cellB : Cell} (hcell : T.heap[b]? = some cellB) (hobj : cellB.vm.isStatics = false) (hcls : s.vm.findClass C = some cellB.cls)
    {g : JFrame} (hg : g.method = m) (hsize : g.locals.size = c.maxLocals) {argsL rest : List Value} (hlen : ∀ sig, parseMethodDescriptor y.desc = some sig → argsL.length = sig.parameters.length)
    (hstack : g.stack = argsL.reverse ++ .ref b :: rest) (hW : 2 * g.monitorRoom + (rest.map fun v => v.category).sum ≤ W9) (hdg : decode c.code g.pc = .ok (.invokevirtual index, 3))
    (hpre : ∀ vm₁, s.WarmedH vm₁ → Pre ⟨T.setVm vm₁, locs, cells, slots⟩ (Value.ref b :: argsL).toArray) :
    (∃ (v : Option Value) (vm₁ : Vm) (B : Pt), s.WarmedH vm₁ ∧ Stand p l e R s m args below meth c B.U B.locs B.cells B.slots ∧ Post ⟨T.setVm vm₁, locs, cells, slots⟩ (Value.ref b :: argsL).toArray v B ∧
      ∀ target, Steps p.tables e below (B.U.setTop { g with pc := g.pc + 3, stack := v.toList ++ rest }) target → Steps p.tables e below (T.setTop g) target) ∨
    (∃ (q : Addr) (vm₁ : Vm) (B : Pt), s.WarmedH vm₁ ∧ Stand p l e R s m args below meth c B.U B.locs B.cells B.slots ∧ PostX ⟨T.setVm vm₁, locs, cells, slots⟩ (Value.ref b :: argsL).toArray q B ∧
      Steps p.tables e below (T.setTop g) ((B.U.setTop { g with stack := rest }).pushFrame (.throwing q))) := by
  obtain ⟨mk, methM, hnamed, hmethM, hstM, habM⟩ := Cond.instanceMethod_spec hinst
  obtain ⟨methM', cM, hmethM', -, -, -, -, -, -, hsigM⟩ := Cond.code_spec hnamed hcode
  cases hmethM.symm.trans hmethM'
  obtain ⟨c2, r2, m2, q1, q2, q3, q4, kP, hkP, hkPi⟩ := Cond.selects_spec hsel
  cases hcls.symm.trans q1
  cases (State.methodFound?_of_named hnamed hy).symm.trans q2
  cases hnamed.symm.trans q3
  have hselP : selectMethod e.platform s.vm cellB.cls mk = .method mk := by rw [Launch.admits_selectMethod X.admits]; exact q4
  obtain ⟨vm₁, X₁, hstep₁⟩ := X.invokevirtual hexec hown hlink hnamed hmethM hstM hkP hkPi hy (a := b) (cell := cellB) hcell
    (fun z h => by rw [h] at hobj; cases hobj) hselP hmethM habM hkP hkPi (g := g) hg (argsL := argsL) (rest := rest) (hlen _ hsigM) hstack hdg
  rcases hK m meth c ⟨T.setVm vm₁, locs, cells, slots⟩ { g with stack := rest } (.invokevirtual index) mk (Value.ref b :: argsL).toArray X₁ hg hsize hdg hW (X₁.named hnamed) (hpre vm₁ X₁.warmed) with ⟨v, B, X', hpost, hsteps⟩ | ⟨q, B, X', hpost, hsteps⟩
  · exact Or.inl ⟨v, vm₁, B, X₁.warmed, X', hpost, fun target h => hstep₁ _ fun acts => by rw [doInvoke_state]; exact hsteps.trans h⟩
  · exact Or.inr ⟨q, vm₁, B, X₁.warmed, X', hpost, hstep₁ _ fun acts => by rw [doInvoke_state]; exact hsteps⟩
theorem vx_callS (X : Stand p l e R s m args below meth c T locs cells slots) (hexec : p.tables.exec = Jvm.exec) {own : String} {index : Nat} {y : MethodName} {bytes : ByteArray} {maxL : Nat} {ret : Option FieldType}
    (hown : s.vm.findClass own = some m.cls) (hlink : (Cond.methodLink own index y).before args s = true) (hstat : (Cond.static y).before args s = true) (hinit : (Cond.initialized y.cls).before args s = true)
    (hcode : (Cond.code y bytes maxL ret).before args s = true) (hy : y.cls ≠ "java/lang/invoke/MethodHandle" ∧ y.cls ≠ "java/lang/invoke/VarHandle")
    {W9 : Nat} {Pre : Pt → Array Value → Prop} {Post : Pt → Array Value → Option Value → Pt → Prop} {PostX : Pt → Array Value → Addr → Pt → Prop} (hK : vx_Back l R p e below s args y 3 W9 Pre Post PostX)
    {g : JFrame} (hg : g.method = m) (hsize : g.locals.size = c.maxLocals) {argsL rest : List Value} (hlen : ∀ sig, parseMethodDescriptor y.desc = some sig → argsL.length = sig.parameters.length)
    (hstack : g.stack = argsL.reverse ++ rest) (hW : 2 * g.monitorRoom + (rest.map fun v => v.category).sum ≤ W9) (hdg : decode c.code g.pc = .ok (.invokestatic index, 3))
    (hpre : ∀ vm₁, s.WarmedH vm₁ → Pre ⟨T.setVm vm₁, locs, cells, slots⟩ argsL.toArray) :
    (∃ (v : Option Value) (vm₁ : Vm) (B : Pt), s.WarmedH vm₁ ∧ Stand p l e R s m args below meth c B.U B.locs B.cells B.slots ∧ Post ⟨T.setVm vm₁, locs, cells, slots⟩ argsL.toArray v B ∧
      ∀ target, Steps p.tables e below (B.U.setTop { g with pc := g.pc + 3, stack := v.toList ++ rest }) target → Steps p.tables e below (T.setTop g) target) ∨
    (∃ (q : Addr) (vm₁ : Vm) (B : Pt), s.WarmedH vm₁ ∧ Stand p l e R s m args below meth c B.U B.locs B.cells B.slots ∧ PostX ⟨T.setVm vm₁, locs, cells, slots⟩ argsL.toArray q B ∧
      Steps p.tables e below (T.setTop g) ((B.U.setTop { g with stack := rest }).pushFrame (.throwing q))) := by
  obtain ⟨mk, hnamed⟩ := Cond.code_named hcode
  obtain ⟨methM, cM, hmethM, -, -, -, -, -, -, hsigM⟩ := Cond.code_spec hnamed hcode
  have hstatic : methM.isStatic = true := Cond.static_spec hnamed hmethM hstat
  obtain ⟨kP, hkP, -⟩ := className_of_methodNamed hnamed
  have hinitP : kP.init = .initialized := Cond.initialized_spec (findClass_of_methodNamed hnamed) hkP hinit
  obtain ⟨vm₁, X₁, hstep₁⟩ := X.invokestatic hexec hown hlink hnamed hmethM hstatic hkP hinitP hy (g := g) hg (argsL := argsL) (rest := rest) (hlen _ hsigM) hstack hdg
  rcases hK m meth c ⟨T.setVm vm₁, locs, cells, slots⟩ { g with stack := rest } (.invokestatic index) mk argsL.toArray X₁ hg hsize hdg hW (X₁.named hnamed) (hpre vm₁ X₁.warmed) with ⟨v, B, X', hpost, hsteps⟩ | ⟨q, B, X', hpost, hsteps⟩
  · exact Or.inl ⟨v, vm₁, B, X₁.warmed, X', hpost, fun target h => hstep₁ _ fun acts => by rw [doInvoke_state]; exact hsteps.trans h⟩
  · exact Or.inr ⟨q, vm₁, B, X₁.warmed, X', hpost, hstep₁ _ fun acts => by rw [doInvoke_state]; exact hsteps⟩
end Calls
theorem vx_cls {s : State} {T : State} {vm₁ : Vm} {E : String} {k : ClassId} (hW : s.WarmedH vm₁) (h : (T.setVm vm₁).vm.findClass E = some k) : s.vm.findClass E = some k := by
  have h1 : vm₁.findClass E = some k := h
  rw [hW.alike.findClass] at h1
  exact h1
/-- the method's frame g, with q thrown over it -/
def vx_W (p : Program) (l : Launch) (e : Env) (R : Room) (s : State) (m : MethodId) (args : Array Value) (below : List Frame) (meth : Method) (c : Code) (H : Heap) (locs : List Loc) (cells slots : Nat) (Q : State → Prop) (g : JFrame) (q : Addr) : Prop :=
  ∀ T : State, T.heap = H → Stand p l e R s m args below meth c T locs cells slots → ∃ t, Steps p.tables e below ((T.setTop g).pushFrame (.throwing q)) t ∧ Q t
def vx_Run (p : Program) (l : Launch) (e : Env) (R : Room) (s : State) (m : MethodId) (args : Array Value) (below : List Frame) (meth : Method) (c : Code) (H : Heap) (locs : List Loc) (cells slots mc ms : Nat) (g : JFrame) (rest : List Value) (Qa : State → Outcome → State → Prop) (XC : String → State → State → Prop) (free : Addr → Prop) : Prop :=
  ∀ T : State, T.heap = H → Stand p l e R s m args below meth c T locs cells slots →
    (∃ (v : Option Value) (st₀ t T' : State) (L : List Loc), st₀.heap = H ∧ Stand p l e R s m args below meth c T' (locs ++ L) (cells + mc) (slots + ms) ∧ (∀ q ∈ L, free q.base) ∧ T'.heap = t.heap ∧ T'.vm = t.vm ∧ Qa st₀ (.returned v) t ∧
      Goes p e below T g T' { g with pc := g.pc + 3, stack := v.toList ++ rest }) ∨
    (∃ (q : Addr) (st₀ t T' : State) (L : List Loc) (E : String) (ce : Cell), st₀.heap = H ∧ Stand p l e R s m args below meth c T' (locs ++ L) (cells + mc) (slots + ms) ∧ (∀ z ∈ L, free z.base) ∧ T'.heap = t.heap ∧ T'.vm = t.vm ∧ XC E st₀ t ∧ t.heap[q]? = some ce ∧ ce.vm = .none ∧ s.vm.findClass E = some ce.cls ∧
      Steps p.tables e below (T.setTop g) ((T'.setTop { g with stack := rest }).pushFrame (.throwing q)))
def vx_X {S : Type} (px : S → Prop) (B : String → S → State → Prop) (A : Nat → Prop) : String → State → State → Prop := fun E st t => ∃ u : S, px u ∧ B E u t ∧ va_F A st t
section Runs
variable {p : Program} {l : Launch} {e : Env} {R : Room} {s : State} {m : MethodId} {args : Array Value} {below : List Frame} {meth : Method} {c : Code} {H : Heap} {locs : List Loc} {cells slots : Nat}
variable {y : MethodName} {bytes cc : ByteArray} {maxL nL mc ms n index : Nat} {ret : Option FieldType} {ws : List Cond} {rm : Room} {Pc : Array Value → State → Prop} {Qc : Array Value → State → Outcome → State → Prop} {XC : String → State → State → Prop} {free : Addr → Prop} {Ts : List Cond} {own C : String} {b : Addr} {As rest : List Value} {g : JFrame}
theorem vx_callBack (cb : CallB R s args own index y bytes maxL ret ws rm mc ms n) (hM : vx_Met l y ws rm Pc Qc XC mc ms free) (hbl : FrameBlind Pc) : vx_Back l R p e below s args y 3 8 (PreOf R mc ms Pc) (PostOf Qc mc ms free) (vx_Post XC mc ms free) := by
  obtain ⟨hrc, hrs, hfr, hlo, hws, hcw, -, hini, -⟩ := cb
  exact vx_back (bytes := bytes) (maxL := maxL) (ret := ret) hM hbl hrc hrs hfr hlo hws hcw (fun a' U hW => word_at hW (Or.inl (by first | rfl | simp [Cond.onTables, Cond.keeps, Cond.steady])) hini)
theorem vx_runV (S : CallFix p m c cc nL s args Ts own) (hM : vx_Met l y ws rm Pc Qc XC mc ms free) (cw : CallW R s args own C index y bytes maxL ret ws rm mc ms n) (hp : PreV s H C b Pc As)
    (hg : g.method = m) (hn : As.length = n) (hsize : g.locals.size = nL) (hstack : g.stack = As.reverse ++ .ref b :: rest) (hW : 2 * g.monitorRoom + (rest.map fun v => v.category).sum ≤ 8) (hdg : decode cc g.pc = .ok (.invokevirtual index, 3)) (hf : cells + mc ≤ R.cells ∧ slots + ms ≤ R.slots) :
    vx_Run p l e R s m args below meth c H locs cells slots mc ms g rest (Qc (Value.ref b :: As).toArray) XC free := by
  have hK : vx_Back l R p e below s args y 3 8 (PreOf R mc ms Pc) (PostOf Qc mc ms free) (vx_Post XC mc ms free) := vx_callBack cw.1 hM hp.1
  obtain ⟨⟨-, -, -, -, -, -, hcode, -, hy, hlen, hl⟩, hin, hse⟩ := cw
  obtain ⟨hx, hb, hml, ho, -⟩ := S
  obtain ⟨-, ⟨cellB, hcB, hoB, hclB⟩, hPc⟩ := hp
  intro T hT X
  rcases vx_callV X hx (C := C) (bytes := bytes) (maxL := maxL) (ret := ret) ho hl hin hse hcode hy hK (by rw [hT]; exact hcB) hoB hclB hg (hsize.trans hml.symm) (argsL := As) (rest := rest) (fun sig h => hn.trans (hlen sig h)) hstack hW (by rw [hb]; exact hdg)
    (fun vm₁ hW₁ => ⟨hf.1, hf.2, hPc (T.setVm vm₁) hT hW₁⟩) with ⟨v, vm₁, ⟨U', l2, c2, s2⟩, hW₁, X', ⟨g', mk, t, L, e1, e2, hq, h1, hL, h2, h3⟩, st⟩ | ⟨q, vm₁, ⟨U', l2, c2, s2⟩, hW₁, X', ⟨g', mk, t, L, E, ce, e1, e2, hq, hce, hcv, hcl, h1, hL, h2, h3⟩, st⟩
  · dsimp only [Pt.U, Pt.locs, Pt.cells, Pt.slots] at X' e1 e2 h1 h2 h3 st
    subst h1; subst h2; subst h3
    exact Or.inl ⟨v, (T.setVm vm₁).calling g' mk (Value.ref b :: As).toArray, t, U', L, hT, X', hL, e1, e2, hq, st⟩
  · dsimp only [Pt.U, Pt.locs, Pt.cells, Pt.slots] at X' e1 e2 h1 h2 h3 st hcl
    subst h1; subst h2; subst h3
    exact Or.inr ⟨q, (T.setVm vm₁).calling g' mk (Value.ref b :: As).toArray, t, U', L, E, ce, hT, X', hL, e1, e2, hq, hce, hcv, vx_cls hW₁ hcl, st⟩
theorem vx_runS (S : CallFix p m c cc nL s args Ts own) (hM : vx_Met l y ws rm Pc Qc XC mc ms free) (cw : CallB R s args own index y bytes maxL ret ws rm mc ms n ∧ (Cond.static y).before args s = true) (hp : PreS s H Pc As)
    (hg : g.method = m) (hn : As.length = n) (hsize : g.locals.size = nL) (hstack : g.stack = As.reverse ++ rest) (hW : 2 * g.monitorRoom + (rest.map fun v => v.category).sum ≤ 8) (hdg : decode cc g.pc = .ok (.invokestatic index, 3)) (hf : cells + mc ≤ R.cells ∧ slots + ms ≤ R.slots) :
    vx_Run p l e R s m args below meth c H locs cells slots mc ms g rest (Qc As.toArray) XC free := by
  have hK : vx_Back l R p e below s args y 3 8 (PreOf R mc ms Pc) (PostOf Qc mc ms free) (vx_Post XC mc ms free) := vx_callBack cw.1 hM hp.1
  obtain ⟨⟨-, -, -, -, -, -, hcode, hini, hy, hlen, hl⟩, hstt⟩ := cw
  obtain ⟨hx, hb, hml, ho, -⟩ := S
  intro T hT X
  rcases vx_callS X hx (bytes := bytes) (maxL := maxL) (ret := ret) ho hl hstt hini hcode hy hK hg (hsize.trans hml.symm) (argsL := As) (rest := rest) (fun sig h => hn.trans (hlen sig h)) hstack hW (by rw [hb]; exact hdg)
    (fun vm₁ hW₁ => ⟨hf.1, hf.2, hp.2 (T.setVm vm₁) hT hW₁⟩) with ⟨v, vm₁, ⟨U', l2, c2, s2⟩, hW₁, X', ⟨g', mk, t, L, e1, e2, hq, h1, hL, h2, h3⟩, st⟩ | ⟨q, vm₁, ⟨U', l2, c2, s2⟩, hW₁, X', ⟨g', mk, t, L, E, ce, e1, e2, hq, hce, hcv, hcl, h1, hL, h2, h3⟩, st⟩
  · dsimp only [Pt.U, Pt.locs, Pt.cells, Pt.slots] at X' e1 e2 h1 h2 h3 st
    subst h1; subst h2; subst h3
    exact Or.inl ⟨v, (T.setVm vm₁).calling g' mk As.toArray, t, U', L, hT, X', hL, e1, e2, hq, st⟩
  · dsimp only [Pt.U, Pt.locs, Pt.cells, Pt.slots] at X' e1 e2 h1 h2 h3 st hcl
    subst h1; subst h2; subst h3
    exact Or.inr ⟨q, (T.setVm vm₁).calling g' mk As.toArray, t, U', L, E, ce, hT, X', hL, e1, e2, hq, hce, hcv, vx_cls hW₁ hcl, st⟩
end Runs
section Rows
variable {p : Program} {l : Launch} {e : Env} {R : Room} {s : State} {m : MethodId} {args : Array Value} {below : List Frame} {meth : Method} {c : Code} {H : Heap} {locs : List Loc} {cells slots : Nat} {Q : State → Prop}
variable {mc ms : Nat} {free : Addr → Prop} {A0 A1 : Nat → Prop} {H0 : Heap} {a : Array Value} {pc : Nat} {ls : Array Slot} {st0 rest : List Value}
theorem vx_keep {st₀ t T' : State} {L : List Loc} (h0 : st₀.heap = H) (e1 : T'.heap = t.heap) (hS : va_S A0 H0 H locs) (hA : ∀ q, q < H.size → A1 q → A0 q) (hf : ∀ q, free q → A0 q) (hL : ∀ q ∈ L, free q.base) (hF : va_F A1 st₀ t) :
    H.size ≤ T'.heap.size ∧ (∀ q : Nat, q < H.size → ¬ A1 q → T'.heap[q]? = H[q]?) ∧ va_S A0 H0 T'.heap (locs ++ L) := by
  obtain ⟨hz, hk⟩ := hF
  rw [h0] at hz hk
  exact ⟨by rw [e1]; exact hz, fun q h1 h2 => by rw [e1]; exact hk q h1 h2,
    ⟨Nat.le_trans hS.1 (by rw [e1]; exact hz), fun q h1 h2 => by rw [e1, hk q (Nat.lt_of_lt_of_le h1 hS.1) (fun z => h2 (hA q (Nat.lt_of_lt_of_le h1 hS.1) z))]; exact hS.2.1 q h1 h2, fun q hq => by
      rcases List.mem_append.mp hq with h | h
      · exact hS.2.2 q h
      · exact hf _ (hL q h)⟩⟩
theorem vx_calli {S SX : Type} {post : Int32 → S → Prop} {px : SX → Prop} {B : S → State → Prop} {BX : String → SX → State → Prop} {AX : Nat → Prop} (hr : vx_Run p l e R s m args below meth c H locs cells slots mc ms (F0 m pc ls st0) rest (va_Qi post B A1 a) (vx_X px BX AX) free) (hS : va_S A0 H0 H locs) (hA : ∀ q, q < H.size → A1 q → A0 q) (hf : ∀ q, free q → A0 q) (hAX : ∀ q, q < H.size → AX q → A0 q)
    (kx : ∀ (E : String) (ce : Cell) (q9 : Addr) (u : SX) (t : State) (H1 : Heap) (locs1 : List Loc), t.heap = H1 → s.vm.Alike t.vm → px u → BX E u t → H.size ≤ H1.size → (∀ q : Nat, q < H.size → ¬ AX q → H1[q]? = H[q]?) → va_S A0 H0 H1 locs1 → H1[q9]? = some ce → ce.vm = .none → s.vm.findClass E = some ce.cls → vx_W p l e R s m args below meth c H1 locs1 (cells + mc) (slots + ms) Q (F0 m pc ls rest) q9)
    (kk : ∀ (r : Int32) (u : S) (t : State) (H1 : Heap) (locs1 : List Loc), t.heap = H1 → s.vm.Alike t.vm → post r u → B u t → H.size ≤ H1.size → (∀ q : Nat, q < H.size → ¬ A1 q → H1[q]? = H[q]?) → va_S A0 H0 H1 locs1 → W p l e R s m args below meth c H1 locs1 (cells + mc) (slots + ms) Q (F0 m (pc + 3) ls (.int r :: rest))) : W p l e R s m args below meth c H locs cells slots Q (F0 m pc ls st0) := by
  intro T hT X
  rcases hr T hT X with ⟨v, st₀, t, T', L, h0, X', hL, e1, e2, ⟨⟨r, u, hv, hp, hb⟩, hF⟩, st⟩ | ⟨q, st₀, t, T', L, E, ce, h0, X', hL, e1, e2, ⟨u, hp, hb, hF⟩, hce, hcv, hcl, st⟩
  · cases hv
    obtain ⟨k1, k2, k3⟩ := vx_keep h0 e1 hS hA hf hL hF
    obtain ⟨t2, a1, b1⟩ := kk r u t T'.heap (locs ++ L) e1.symm (by rw [← e2]; exact X'.warmed.alike) hp hb k1 k2 k3 T' rfl X'
    exact ⟨t2, st t2 a1, b1⟩
  · obtain ⟨k1, k2, k3⟩ := vx_keep h0 e1 hS hAX hf hL hF
    obtain ⟨t2, a1, b1⟩ := kx E ce q u t T'.heap (locs ++ L) e1.symm (by rw [← e2]; exact X'.warmed.alike) hp hb k1 k2 k3 (by rw [e1]; exact hce) hcv hcl T' rfl X'
    exact ⟨t2, st.trans a1, b1⟩
theorem vx_calll {S SX : Type} {post : Int64 → S → Prop} {px : SX → Prop} {B : S → State → Prop} {BX : String → SX → State → Prop} {AX : Nat → Prop} (hr : vx_Run p l e R s m args below meth c H locs cells slots mc ms (F0 m pc ls st0) rest (va_Ql post B A1 a) (vx_X px BX AX) free) (hS : va_S A0 H0 H locs) (hA : ∀ q, q < H.size → A1 q → A0 q) (hf : ∀ q, free q → A0 q) (hAX : ∀ q, q < H.size → AX q → A0 q)
    (kx : ∀ (E : String) (ce : Cell) (q9 : Addr) (u : SX) (t : State) (H1 : Heap) (locs1 : List Loc), t.heap = H1 → s.vm.Alike t.vm → px u → BX E u t → H.size ≤ H1.size → (∀ q : Nat, q < H.size → ¬ AX q → H1[q]? = H[q]?) → va_S A0 H0 H1 locs1 → H1[q9]? = some ce → ce.vm = .none → s.vm.findClass E = some ce.cls → vx_W p l e R s m args below meth c H1 locs1 (cells + mc) (slots + ms) Q (F0 m pc ls rest) q9)
    (kk : ∀ (r : Int64) (u : S) (t : State) (H1 : Heap) (locs1 : List Loc), t.heap = H1 → s.vm.Alike t.vm → post r u → B u t → H.size ≤ H1.size → (∀ q : Nat, q < H.size → ¬ A1 q → H1[q]? = H[q]?) → va_S A0 H0 H1 locs1 → W p l e R s m args below meth c H1 locs1 (cells + mc) (slots + ms) Q (F0 m (pc + 3) ls (.long r :: rest))) : W p l e R s m args below meth c H locs cells slots Q (F0 m pc ls st0) := by
  intro T hT X
  rcases hr T hT X with ⟨v, st₀, t, T', L, h0, X', hL, e1, e2, ⟨⟨r, u, hv, hp, hb⟩, hF⟩, st⟩ | ⟨q, st₀, t, T', L, E, ce, h0, X', hL, e1, e2, ⟨u, hp, hb, hF⟩, hce, hcv, hcl, st⟩
  · cases hv
    obtain ⟨k1, k2, k3⟩ := vx_keep h0 e1 hS hA hf hL hF
    obtain ⟨t2, a1, b1⟩ := kk r u t T'.heap (locs ++ L) e1.symm (by rw [← e2]; exact X'.warmed.alike) hp hb k1 k2 k3 T' rfl X'
    exact ⟨t2, st t2 a1, b1⟩
  · obtain ⟨k1, k2, k3⟩ := vx_keep h0 e1 hS hAX hf hL hF
    obtain ⟨t2, a1, b1⟩ := kx E ce q u t T'.heap (locs ++ L) e1.symm (by rw [← e2]; exact X'.warmed.alike) hp hb k1 k2 k3 (by rw [e1]; exact hce) hcv hcl T' rfl X'
    exact ⟨t2, st.trans a1, b1⟩
theorem vx_callf {S SX : Type} {post : UInt32 → S → Prop} {px : SX → Prop} {B : S → State → Prop} {BX : String → SX → State → Prop} {AX : Nat → Prop} (hr : vx_Run p l e R s m args below meth c H locs cells slots mc ms (F0 m pc ls st0) rest (va_Qf post B A1 a) (vx_X px BX AX) free) (hS : va_S A0 H0 H locs) (hA : ∀ q, q < H.size → A1 q → A0 q) (hf : ∀ q, free q → A0 q) (hAX : ∀ q, q < H.size → AX q → A0 q)
    (kx : ∀ (E : String) (ce : Cell) (q9 : Addr) (u : SX) (t : State) (H1 : Heap) (locs1 : List Loc), t.heap = H1 → s.vm.Alike t.vm → px u → BX E u t → H.size ≤ H1.size → (∀ q : Nat, q < H.size → ¬ AX q → H1[q]? = H[q]?) → va_S A0 H0 H1 locs1 → H1[q9]? = some ce → ce.vm = .none → s.vm.findClass E = some ce.cls → vx_W p l e R s m args below meth c H1 locs1 (cells + mc) (slots + ms) Q (F0 m pc ls rest) q9)
    (kk : ∀ (r : UInt32) (u : S) (t : State) (H1 : Heap) (locs1 : List Loc), t.heap = H1 → s.vm.Alike t.vm → post r u → B u t → H.size ≤ H1.size → (∀ q : Nat, q < H.size → ¬ A1 q → H1[q]? = H[q]?) → va_S A0 H0 H1 locs1 → W p l e R s m args below meth c H1 locs1 (cells + mc) (slots + ms) Q (F0 m (pc + 3) ls (.float r :: rest))) : W p l e R s m args below meth c H locs cells slots Q (F0 m pc ls st0) := by
  intro T hT X
  rcases hr T hT X with ⟨v, st₀, t, T', L, h0, X', hL, e1, e2, ⟨⟨r, u, hv, hp, hb⟩, hF⟩, st⟩ | ⟨q, st₀, t, T', L, E, ce, h0, X', hL, e1, e2, ⟨u, hp, hb, hF⟩, hce, hcv, hcl, st⟩
  · cases hv
    obtain ⟨k1, k2, k3⟩ := vx_keep h0 e1 hS hA hf hL hF
    obtain ⟨t2, a1, b1⟩ := kk r u t T'.heap (locs ++ L) e1.symm (by rw [← e2]; exact X'.warmed.alike) hp hb k1 k2 k3 T' rfl X'
    exact ⟨t2, st t2 a1, b1⟩
  · obtain ⟨k1, k2, k3⟩ := vx_keep h0 e1 hS hAX hf hL hF
    obtain ⟨t2, a1, b1⟩ := kx E ce q u t T'.heap (locs ++ L) e1.symm (by rw [← e2]; exact X'.warmed.alike) hp hb k1 k2 k3 (by rw [e1]; exact hce) hcv hcl T' rfl X'
    exact ⟨t2, st.trans a1, b1⟩
theorem vx_calld {S SX : Type} {post : UInt64 → S → Prop} {px : SX → Prop} {B : S → State → Prop} {BX : String → SX → State → Prop} {AX : Nat → Prop} (hr : vx_Run p l e R s m args below meth c H locs cells slots mc ms (F0 m pc ls st0) rest (va_Qd post B A1 a) (vx_X px BX AX) free) (hS : va_S A0 H0 H locs) (hA : ∀ q, q < H.size → A1 q → A0 q) (hf : ∀ q, free q → A0 q) (hAX : ∀ q, q < H.size → AX q → A0 q)
    (kx : ∀ (E : String) (ce : Cell) (q9 : Addr) (u : SX) (t : State) (H1 : Heap) (locs1 : List Loc), t.heap = H1 → s.vm.Alike t.vm → px u → BX E u t → H.size ≤ H1.size → (∀ q : Nat, q < H.size → ¬ AX q → H1[q]? = H[q]?) → va_S A0 H0 H1 locs1 → H1[q9]? = some ce → ce.vm = .none → s.vm.findClass E = some ce.cls → vx_W p l e R s m args below meth c H1 locs1 (cells + mc) (slots + ms) Q (F0 m pc ls rest) q9)
    (kk : ∀ (r : UInt64) (u : S) (t : State) (H1 : Heap) (locs1 : List Loc), t.heap = H1 → s.vm.Alike t.vm → post r u → B u t → H.size ≤ H1.size → (∀ q : Nat, q < H.size → ¬ A1 q → H1[q]? = H[q]?) → va_S A0 H0 H1 locs1 → W p l e R s m args below meth c H1 locs1 (cells + mc) (slots + ms) Q (F0 m (pc + 3) ls (.double r :: rest))) : W p l e R s m args below meth c H locs cells slots Q (F0 m pc ls st0) := by
  intro T hT X
  rcases hr T hT X with ⟨v, st₀, t, T', L, h0, X', hL, e1, e2, ⟨⟨r, u, hv, hp, hb⟩, hF⟩, st⟩ | ⟨q, st₀, t, T', L, E, ce, h0, X', hL, e1, e2, ⟨u, hp, hb, hF⟩, hce, hcv, hcl, st⟩
  · cases hv
    obtain ⟨k1, k2, k3⟩ := vx_keep h0 e1 hS hA hf hL hF
    obtain ⟨t2, a1, b1⟩ := kk r u t T'.heap (locs ++ L) e1.symm (by rw [← e2]; exact X'.warmed.alike) hp hb k1 k2 k3 T' rfl X'
    exact ⟨t2, st t2 a1, b1⟩
  · obtain ⟨k1, k2, k3⟩ := vx_keep h0 e1 hS hAX hf hL hF
    obtain ⟨t2, a1, b1⟩ := kx E ce q u t T'.heap (locs ++ L) e1.symm (by rw [← e2]; exact X'.warmed.alike) hp hb k1 k2 k3 (by rw [e1]; exact hce) hcv hcl T' rfl X'
    exact ⟨t2, st.trans a1, b1⟩
theorem vx_callv {S SX : Type} {post : S → Prop} {px : SX → Prop} {B : S → State → Prop} {BX : String → SX → State → Prop} {AX : Nat → Prop} (hr : vx_Run p l e R s m args below meth c H locs cells slots mc ms (F0 m pc ls st0) rest (va_Qv post B A1 a) (vx_X px BX AX) free) (hS : va_S A0 H0 H locs) (hA : ∀ q, q < H.size → A1 q → A0 q) (hf : ∀ q, free q → A0 q) (hAX : ∀ q, q < H.size → AX q → A0 q)
    (kx : ∀ (E : String) (ce : Cell) (q9 : Addr) (u : SX) (t : State) (H1 : Heap) (locs1 : List Loc), t.heap = H1 → s.vm.Alike t.vm → px u → BX E u t → H.size ≤ H1.size → (∀ q : Nat, q < H.size → ¬ AX q → H1[q]? = H[q]?) → va_S A0 H0 H1 locs1 → H1[q9]? = some ce → ce.vm = .none → s.vm.findClass E = some ce.cls → vx_W p l e R s m args below meth c H1 locs1 (cells + mc) (slots + ms) Q (F0 m pc ls rest) q9)
    (kk : ∀ (u : S) (t : State) (H1 : Heap) (locs1 : List Loc), t.heap = H1 → s.vm.Alike t.vm → post u → B u t → H.size ≤ H1.size → (∀ q : Nat, q < H.size → ¬ A1 q → H1[q]? = H[q]?) → va_S A0 H0 H1 locs1 → W p l e R s m args below meth c H1 locs1 (cells + mc) (slots + ms) Q (F0 m (pc + 3) ls (rest))) : W p l e R s m args below meth c H locs cells slots Q (F0 m pc ls st0) := by
  intro T hT X
  rcases hr T hT X with ⟨v, st₀, t, T', L, h0, X', hL, e1, e2, ⟨⟨u, hv, hp, hb⟩, hF⟩, st⟩ | ⟨q, st₀, t, T', L, E, ce, h0, X', hL, e1, e2, ⟨u, hp, hb, hF⟩, hce, hcv, hcl, st⟩
  · cases hv
    obtain ⟨k1, k2, k3⟩ := vx_keep h0 e1 hS hA hf hL hF
    obtain ⟨t2, a1, b1⟩ := kk u t T'.heap (locs ++ L) e1.symm (by rw [← e2]; exact X'.warmed.alike) hp hb k1 k2 k3 T' rfl X'
    exact ⟨t2, st t2 a1, b1⟩
  · obtain ⟨k1, k2, k3⟩ := vx_keep h0 e1 hS hAX hf hL hF
    obtain ⟨t2, a1, b1⟩ := kx E ce q u t T'.heap (locs ++ L) e1.symm (by rw [← e2]; exact X'.warmed.alike) hp hb k1 k2 k3 (by rw [e1]; exact hce) hcv hcl T' rfl X'
    exact ⟨t2, st.trans a1, b1⟩
/-- caught by the row x of this method's table; the rows ahead don't take it -/
theorem vx_catch {own name : String} {E : String} {ce : Cell} {q : Addr} (hown : s.vm.findClass own = some m.cls) (pre : List ExceptionTableEntry) (x : ExceptionTableEntry) (suf : List ExceptionTableEntry) (hsplit : c.exceptionTable.toList = pre ++ x :: suf)
    (hpass : ∀ z ∈ pre, covers z pc = false ∨ (z.catchType ≠ 0 ∧ ∃ nm : String, (Cond.classLink own z.catchType nm).before args s = true ∧ va_Nc E nm s)) (hx : covers x pc = true) (h0 : x.catchType ≠ 0)
    (hlink : (Cond.classLink own x.catchType name).before args s = true) (hcast : (Cond.castable E name).before args s = true) (hcell : H[q]? = some ce) (hv : ce.vm = .none) (hcl : s.vm.findClass E = some ce.cls)
    (kk : W p l e R s m args below meth c H locs cells slots Q (F0 m x.handlerPc ls [.ref q])) : vx_W p l e R s m args below meth c H locs cells slots Q (F0 m pc ls rest) q := by
  intro T hT X
  have hpl : e.platform.magicAccessors = ({} : Platform).magicAccessors := by rw [X.admits.platform]
  obtain ⟨c3, c4, hc3, hc4, hasg⟩ := Cond.castable_spec hcast
  cases Option.some.inj (hc3.symm.trans hcl)
  obtain ⟨c5, hc5, hcl5⟩ := Cond.classLink_spec hown hlink e.platform hpl
  cases Option.some.inj (hc4.symm.trans hc5)
  obtain ⟨vm', X', st⟩ := X.thenCaughtThrough q (g := F0 m pc ls rest) rfl (Steps.refl _) (by rw [hT]; exact hcell) (by rw [hv]; rfl) (by obtain ⟨k9, h9, -⟩ := Vm.findClass_spec hcl; exact ⟨k9, h9⟩) pre x suf hsplit
    (fun z hz => by
      rcases hpass z hz with h | ⟨hz0, nm, hl1, hn1⟩
      · exact Or.inl h
      · obtain ⟨c6, hc6, hcl6⟩ := Cond.classLink_spec hown hl1 e.platform hpl
        obtain ⟨a8, b8, h1, h2, h3⟩ := hn1
        cases Option.some.inj (h1.symm.trans hcl)
        cases Option.some.inj (h2.symm.trans hc6)
        exact Or.inr ⟨hz0, _, hcl6, h3⟩) hx (Or.inr ⟨h0, c4, hcl5, hasg⟩)
  obtain ⟨t, a1, b1⟩ := kk (T.setVm vm') hT X'
  exact ⟨t, st.trans a1, b1⟩
end Rows
section Ends
variable {p : Program} {l : Launch} {e : Env} {R : Room} {s : State} {m : MethodId} {args : Array Value} {below : List Frame} {meth : Method} {c : Code} {H : Heap} {locs : List Loc} {cells slots : Nat} {Q : State → Prop}
variable {mc ms : Nat} {free : Addr → Prop} {A0 A1 : Nat → Prop} {H0 : Heap} {a : Array Value} {ls : Array Slot} {st0 rest : List Value}
variable {Qc : Array Value → State → Outcome → State → Prop} {XC : String → State → State → Prop}
/-- what a body that may throw owes at its end -/
def vx_MQ (below : List Frame) (Qc : Array Value → State → Outcome → State → Prop) (XC : String → State → State → Prop) (a : Array Value) (s : State) (mc ms : Nat) (free : Addr → Prop) : State → Prop := fun t =>
  ∃ o, t.status = .running ∧ Ended t below o ∧ vx_Q Qc XC mc ms free a s o t
theorem vx_ret {g : JFrame} {mc ms : Nat} (k : W p l e R s m args below meth c H locs cells slots (MQ below Qc args s mc ms free) g) : W p l e R s m args below meth c H locs cells slots (vx_MQ below Qc XC args s mc ms free) g := by
  intro T hT X
  obtain ⟨t, a1, o, b1, b2, b3, b4⟩ := k T hT X
  exact ⟨t, a1, o, b1, b2, Or.inl ⟨b3, b4⟩⟩
/-- not caught here: it goes on to the caller -/
theorem vx_widen {g : JFrame} {q : Addr} {k n : Nat} (h1 : cells ≤ k) (h2 : slots ≤ n) (kk : vx_W p l e R s m args below meth c H locs k n Q g q) : vx_W p l e R s m args below meth c H locs cells slots Q g q := fun T hT X => kk T hT (stand_widen X h1 h2)
theorem vx_out {pc : Nat} {E : String} {ce : Cell} {q : Addr} {mc ms : Nat} (hout : ∀ x ∈ c.exceptionTable.toList, covers x pc = false) (hlocks : meth.locks = false) (hcell : H[q]? = some ce) (hv : ce.vm = .none) (hcl : s.vm.findClass E = some ce.cls)
    (hx : ∀ t : State, t.heap = H → s.vm.Alike t.vm → XC E s t) (hf : ∀ z ∈ locs, free z.base) (hc : cells ≤ mc) (hs : slots ≤ ms) :
    vx_W p l e R s m args below meth c H locs cells slots (vx_MQ below Qc XC args s mc ms free) (F0 m pc ls rest) q := by
  intro T hT X
  obtain ⟨st1, hrun, hend, hW, hsm⟩ := X.leaveThrown q (g := F0 m pc ls rest) rfl rfl rfl hout hlocks
  have hcell9 : (T.setFrames (.throwing q :: below)).heap[q]? = some ce := by
    show T.heap[q]? = some ce
    rw [hT]; exact hcell
  exact ⟨_, st1, .threw q, hrun, hend, Or.inr ⟨q, rfl, E, ce, locs, hx _ hT hW.alike, hcell9, hv, hcl, hW, hsm.mono hc hs, hf⟩⟩
theorem vx_frame {U : State} {k n : Nat} (h : s.sameButNew ({ U with vm := s.vm } : State) locs k n) : s.heap.size ≤ U.heap.size ∧ ∀ q : Nat, q < s.heap.size → (∀ z ∈ locs, z.base ≠ q) → U.heap[q]? = s.heap[q]? := by
  obtain ⟨-, h2, -, -, -, h6⟩ := h
  refine ⟨h2, fun q hq hz => ?_⟩
  obtain ⟨c9, e1, e2, e3, e4⟩ := h6 q _ (Array.getElem?_eq_getElem hq)
  have hs : c9.slots = (s.heap[q]).slots := Array.ext_getElem? fun i => e4 i fun hm => hz _ hm rfl
  have h9 : c9 = s.heap[q] := by
    rw [hs] at e2
    exact e2
  have e5 : U.heap[q]? = some c9 := e1
  rw [e5, h9, Array.getElem?_eq_getElem hq]
/-- the words of a throw but the four that speak of the heap -/
def vx_no (w : Cond) : Bool := decide (w ≠ .isRef (.static Bundle.tN "UNASSIGNED_STACK" Bundle.steD)) && decide (w ≠ .isRef (.static Bundle.tN "SUPPRESSED_SENTINEL" Bundle.listD)) && decide (w ≠ .laysStatic Bundle.tN "UNASSIGNED_STACK" Bundle.steD) && decide (w ≠ .laysStatic Bundle.tN "SUPPRESSED_SENTINEL" Bundle.listD)
def vx_at0 (own : String) (ic : Nat) (X : String) (names : List String) : List Cond := (Bundle.ownAtoms0 own ic X names).filter vx_no
def vx_atS (own : String) (ic : Nat) (X : String) (names : List String) : List Cond := (Bundle.ownAtoms own ic X names).filter vx_no
/-- a word that the tables alone decide, or a good one -/
def vx_ot (w : Cond) : Bool := w.onTables || goodWord w
theorem vx_ot_at {args a' : Array Value} {s U : State} {w : Cond} (hW : s.WarmedH U.vm) (hvm : s.vm = U.vm) (hg : vx_ot w = true) (h : w.before args s = true) : w.before a' U = true := by
  simp only [vx_ot, Bool.or_eq_true] at hg
  rcases hg with hg | hg
  · exact va_tabs hg hvm h
  · exact word_at hW (good_of_word hg) h
/-- a list's words: the good ones out of the method's own list, the others by premises of their own -/
theorem vx_hat {args : Array Value} {s : State} {L B : List Cond} (h1 : ∀ w ∈ L.filter goodWord, w.before args s = true) (h2 : ∀ w ∈ L.filter (fun w => !goodWord w), w ∈ B) (h3 : ∀ w ∈ B, w.before args s = true) : ∀ w ∈ L, w.before args s = true := by
  intro w hw
  by_cases g : goodWord w = true
  · exact h1 w (List.mem_filter.mpr ⟨hw, g⟩)
  · refine h3 w (h2 w (List.mem_filter.mpr ⟨hw, ?_⟩))
    show (!goodWord w) = true
    cases hgw : goodWord w
    · rfl
    · exact absurd hgw g
theorem vx_c {args : Array Value} {s : State} {w : Cond} {B : List Cond} (h : w.before args s = true) (t : ∀ w ∈ B, w.before args s = true) : ∀ w' ∈ w :: B, w'.before args s = true := fun w' h' => (List.mem_cons.mp h').elim (fun e => by rw [e]; exact h) (t w')
theorem vx_n {args : Array Value} {s : State} : ∀ w ∈ ([] : List Cond), w.before args s = true := fun _ h => nomatch h
theorem vx_own {args : Array Value} {s : State} {L : List Cond} (h1 : ∀ w ∈ L.filter vx_no, w.before args s = true)
    (hU : (Cond.isRef (.static Bundle.tN "UNASSIGNED_STACK" Bundle.steD)).before args s = true) (hN : (Cond.isRef (.static Bundle.tN "SUPPRESSED_SENTINEL" Bundle.listD)).before args s = true)
    (lU : (Cond.laysStatic Bundle.tN "UNASSIGNED_STACK" Bundle.steD).before args s = true) (lN : (Cond.laysStatic Bundle.tN "SUPPRESSED_SENTINEL" Bundle.listD).before args s = true) : ∀ w ∈ L, w.before args s = true := by
  intro w hw
  by_cases e1 : w = .isRef (.static Bundle.tN "UNASSIGNED_STACK" Bundle.steD)
  · rw [e1]; exact hU
  · by_cases e2 : w = .isRef (.static Bundle.tN "SUPPRESSED_SENTINEL" Bundle.listD)
    · rw [e2]; exact hN
    · by_cases e3 : w = .laysStatic Bundle.tN "UNASSIGNED_STACK" Bundle.steD
      · rw [e3]; exact lU
      · by_cases e4 : w = .laysStatic Bundle.tN "SUPPRESSED_SENTINEL" Bundle.listD
        · rw [e4]; exact lN
        · exact h1 w (List.mem_filter.mpr ⟨hw, by unfold vx_no; rw [decide_eq_true e1, decide_eq_true e2, decide_eq_true e3, decide_eq_true e4]; rfl⟩)
/-- where a static field lies, its class's statics cell in H -/
def vx_L (C n d : String) (A : Nat → Prop) (U : State) (H : Heap) : Prop := ∃ (c : ClassId) (k : Class) (i : Nat) (f : Field) (a : Nat) (cell : Cell), U.vm.findClass C = some c ∧ U.fieldFound? C n d = some (c, k, i, f) ∧ f.isStatic = true ∧ k.statics = some a ∧ H[a]? = some cell ∧ cell.vm.isStatics = true ∧ cell.cls = c ∧ f.slot < cell.slots.size ∧ k.staticTypes[f.slot]? = some f.type ∧ ¬ A a
theorem vx_L.moved {C n d : String} {A : Nat → Prop} {u U : State} {H : Heap} (hvm : u.vm.Alike U.vm) (h : vx_L C n d A u H) : vx_L C n d A U H := by
  obtain ⟨c, k, i, f, a, cell, h1, h2, h3, h4, h5, h6, h7, h8, h9, h10⟩ := h
  obtain ⟨k', hi', he⟩ := State.fieldFound?_setVm hvm h2
  exact ⟨c, k', i, f, a, cell, by rw [hvm.findClass]; exact h1, hi', h3, by rw [he]; exact h4, h5, h6, h7, h8, by rw [he]; exact h9, h10⟩
theorem vx_L.kept {C n d : String} {A : Nat → Prop} {U : State} {H H1 : Heap} (h : vx_L C n d A U H) (hq : ∀ a : Nat, a < H.size → ¬ A a → H1[a]? = H[a]?) : vx_L C n d A U H1 := by
  obtain ⟨c, k, i, f, a, cell, h1, h2, h3, h4, h5, h6, h7, h8, h9, h10⟩ := h
  exact ⟨c, k, i, f, a, cell, h1, h2, h3, h4, by rw [hq a (Array.getElem?_eq_some_iff.mp h5).1 h10]; exact h5, h6, h7, h8, h9, h10⟩
theorem vx_L.narrow {C n d : String} {A B : Nat → Prop} {U : State} {H : Heap} (h : vx_L C n d A U H) (hAB : ∀ q, B q → A q) : vx_L C n d B U H := by
  obtain ⟨c, k, i, f, a, cell, h1, h2, h3, h4, h5, h6, h7, h8, h9, h10⟩ := h
  exact ⟨c, k, i, f, a, cell, h1, h2, h3, h4, h5, h6, h7, h8, h9, fun z => h10 (hAB _ z)⟩
theorem vx_L.word {C n d : String} {A : Nat → Prop} {s : State} {args : Array Value} (h : vx_L C n d A s s.heap) : (Cond.laysStatic C n d).before args s = true := by
  obtain ⟨c, k, i, f, a, cell, h1, h2, h3, h4, h5, h6, h7, h8, h9, -⟩ := h
  show (Cond.laysStatic C n d).holds args s none s [] = true
  exact Cond.laysStatic_of h1 h2 h3 h4 h5 h6 h7 h8 h9
/-- .. and what it holds: null or some reference -/
def vx_Zq (C n d : String) (A : Nat → Prop) (U : State) (H : Heap) : Prop := va_Zq C n d A U H ∧ vx_L C n d A U H
theorem vx_Zq.moved {C n d : String} {A : Nat → Prop} {u U : State} {H : Heap} (hvm : u.vm.Alike U.vm) (h : vx_Zq C n d A u H) : vx_Zq C n d A U H := ⟨va_Zq.moved hvm h.1, vx_L.moved hvm h.2⟩
theorem vx_Zq.kept {C n d : String} {A : Nat → Prop} {U : State} {H H1 : Heap} (h : vx_Zq C n d A U H) (hq : ∀ a : Nat, a < H.size → ¬ A a → H1[a]? = H[a]?) : vx_Zq C n d A U H1 := ⟨va_Zq.kept h.1 hq, vx_L.kept h.2 hq⟩
theorem vx_Zq.narrow {C n d : String} {A B : Nat → Prop} {U : State} {H : Heap} (h : vx_Zq C n d A U H) (hAB : ∀ q, B q → A q) : vx_Zq C n d B U H := ⟨va_Zq.narrow h.1 hAB, vx_L.narrow h.2 hAB⟩
theorem vx_Zqof {args : Array Value} {s : State} {C n d : String} {A : Nat → Prop} (hl : (Cond.laysStatic C n d).before args s = true) (hini : (Cond.initialized C).before args s = true) (h : (Cond.isRef (.static C n d)).before args s = true) (hA : ∀ a : Nat, a < s.heap.size → ¬ A a) : vx_Zq C n d A s s.heap := by
  refine ⟨va_Zqof hl hini h hA, ?_⟩
  obtain ⟨c, k, i, f, a, cell, h1, h2, h3, h4, h5, h6, h7, h8, h9⟩ := Cond.laysStatic_spec hl
  exact ⟨c, k, i, f, a, cell, h1, h2, h3, h4, h5, h6, h7, h8, h9, hA a (Array.getElem?_eq_some_iff.mp h5).1⟩
theorem vx_isRef {C n d : String} {v : Value} {A : Nat → Prop} {s : State} {args : Array Value} (h : va_Z C n d v A s s.heap) (hv : v.isRef = true) : (Cond.isRef (.static C n d)).before args s = true := by
  obtain ⟨cf, kf, fi, f, a, cell, h1, h2, h3, h4, h5, h6, h7, -⟩ := h
  have he : (Term.static C n d).eval args s none [] s = some v := by
    simp [Term.eval, State.fieldNamed?, h1, h2, h4, h5, h6, h7]
  simp only [Cond.before, Cond.holds, Cond.value, he]
  cases v <;> simp_all [Value.isRef]
theorem vx_isRefq {C n d : String} {A : Nat → Prop} {s : State} {args : Array Value} (h : va_Zq C n d A s s.heap) : (Cond.isRef (.static C n d)).before args s = true := by
  rcases h with h | ⟨t, h⟩
  · exact vx_isRef h rfl
  · exact vx_isRef h rfl
/-- the same frame, seen from here: as if the method were called anew in this heap -/
theorem vx_rebase {T : State} (X : Stand p l e R s m args below meth c T locs cells slots) {R' : Room} (hf : R'.frames ≤ R.frames) (hl : R'.locals ≤ R.locals) (hc : cells + R'.cells ≤ R.cells) (hs : slots + R'.slots ≤ R.slots) :
    Stand p l e R' ((T.setVm s.vm).setFrames (.invoking m args :: below)) m args below meth c T [] 0 0 := by
  have htop : (T.setVm s.vm).topJava?.isSome := X.here.top
  have hF : ((T.setVm s.vm).setFrames (.invoking m args :: below)).frames = .invoking m args :: below := State.frames_setFrames _ (State.cur_lt_of_top htop)
  obtain ⟨g₀, hg0⟩ := Option.isSome_iff_exists.mp htop
  obtain ⟨r, hr⟩ := State.topJava?_eq_some.mp hg0
  have hl9 : e.platform.stackLimits (T.setVm s.vm).me = e.platform.stackLimits s.me := X.limits
  have hb9 : (T.setVm s.vm).me.stackBytes = s.me.stackBytes := X.bytes
  refine ⟨X.admits, X.cas, X.clock, hF, ?_, X.hears, X.method, X.code, X.here, X.tail, X.warmed, ?_, ?_, ?_⟩
  · have h := X.room
    have hU : ((T.setVm s.vm).setFrames (.invoking m args :: below)).localsInUse = s.localsInUse := by
      rw [State.localsInUse_invoking hF (meth := meth) (c := c) X.method X.code, State.localsInUse_invoking X.frames X.method X.code]
    simp only [State.hasRoom, Bool.and_eq_true, decide_eq_true_eq] at h ⊢
    obtain ⟨⟨⟨⟨h1, h2, h3, h4, h5, h6⟩, h7⟩, h8⟩, h9⟩ := h
    rw [X.frames, List.length_cons] at h2 h3
    have q1 := X.heapSize
    have q2 := X.used
    simp only [hF, hU, List.length_cons, State.stackLimits_setFrames, State.stackBytes_setFrames, hl9, hb9]
    refine ⟨⟨⟨⟨by omega, by omega, by omega, by omega, by omega, h6⟩, ?_⟩, ?_⟩, X.book⟩
    · show T.heap.size + R'.cells ≤ e.platform.maxCells
      omega
    · show T.slotsUsed + R'.slots ≤ e.platform.maxSlots
      omega
  · rw [State.stackLimits_setFrames]; rfl
  · rw [State.stackBytes_setFrames]; rfl
  · refine ⟨?_, Nat.le_refl _, Nat.le_refl _, ?_, ?_, fun a c9 h9 => ⟨c9, h9, rfl, rfl, fun _ _ => rfl⟩⟩
    · obtain ⟨t, ht, -⟩ := State.frames_cons hr
      show T.setVm s.vm = { ((T.setVm s.vm).setFrames (.invoking m args :: below)).setFrames (T.setVm s.vm).frames with heap := T.heap, slotsUsed := T.slotsUsed }
      rw [State.setFrames_setFrames, State.setFrames_self ht]
      rfl
    · show T.slotsUsed = T.slotsUsed + ((T.heap.toList.drop T.heap.size).map (·.slots.size)).sum
      rw [List.drop_eq_nil_of_le (Nat.le_of_eq Array.length_toList)]
      rfl
    · show ((T.heap.toList.drop T.heap.size).map (·.slots.size)).sum ≤ 0
      rw [List.drop_eq_nil_of_le (Nat.le_of_eq Array.length_toList)]
      exact Nat.le_refl _
/-- 'throw new E()': new; dup; invokespecial; athrow -/
theorem vx_throw0 {cc : ByteArray} {pc : Nat} (hexec : p.tables.exec = Jvm.exec) (hb : c.code = cc) (hl : l.stackTraces = false) {own cls : String} {names : List String} {ik ic mc ms : Nat} {A : Nat → Prop}
    (hown : s.vm.findClass own = some m.cls) (hcls : Bundle.fit cls = true) (hnames : ∀ n ∈ names, Bundle.fit n = true)
    (hk : (Cond.classLink own ik cls).before args s = true) (hini : (Cond.initialized cls).before args s = true) (hat : ∀ w ∈ vx_at0 own ic cls names, w.before args s = true)
    (hgood : ∀ w ∈ Cond.classLink own ik cls :: Cond.initialized cls :: vx_at0 own ic cls names, vx_ot w = true)
    (hU : vx_Zq Bundle.tN "UNASSIGNED_STACK" Bundle.steD A s s.heap) (hN : vx_Zq Bundle.tN "SUPPRESSED_SENTINEL" Bundle.listD A s s.heap) (hS : va_S A s.heap H locs) (hsize : ls.size = c.maxLocals)
    (d0 : decode cc pc = .ok (.new ik, 3)) (d3 : decode cc (pc + 3) = .ok (.dup, 1)) (d4 : decode cc (pc + 4) = .ok (.invokespecial ic, 3)) (d7 : decode cc (pc + 7) = .ok (.athrow, 1))
    (hout : ∀ x ∈ c.exceptionTable.toList, covers x (pc + 7) = false)
    (hRframes : names.length + 3 < R.frames) (hRlocals : (rest.map fun v => v.category).sum + (13 * (names.length + 1) + 42) ≤ R.locals) (hRcells : cells + 1 ≤ R.cells) (hRslots : slots + 6 ≤ R.slots) (hlocks : meth.locks = false)
    (hx : ∀ t : State, s.vm.Alike t.vm → H.size ≤ t.heap.size → (∀ q : Nat, q < H.size → t.heap[q]? = H[q]?) → XC cls s t)
    (hf : ∀ z ∈ locs, free z.base) (hc : cells + 1 ≤ mc) (hs : slots + 6 ≤ ms) :
    W p l e R s m args below meth c H locs cells slots (vx_MQ below Qc XC args s mc ms free) (F0 m pc ls rest) := by
  intro T hT X
  have htr : e.platform.stackTraces = false := (show e.platform.stackTraces = l.stackTraces by rw [X.admits.platform]).trans hl
  have Y := vx_rebase X (R' := { frames := R.frames, locals := R.locals, cells := 1, slots := 6 }) (Nat.le_refl _) (Nat.le_refl _) hRcells hRslots
  obtain ⟨s', hA⟩ : ∃ z, z = (T.setVm s.vm).setFrames (.invoking m args :: below) := ⟨_, rfl⟩
  rw [← hA] at Y
  have hvm : s'.vm = s.vm := by rw [hA]; rfl
  have hhp : s'.heap = H := by rw [hA]; exact hT
  have hW0 : s.WarmedH s'.vm := by rw [hvm]; exact State.WarmedH.refl s
  have hat' : ∀ w ∈ vx_at0 own ic cls names, w.before args s' = true := fun w hw => vx_ot_at hW0 hvm.symm (hgood w (List.mem_cons_of_mem _ (List.mem_cons_of_mem _ hw))) (hat w hw)
  have hk' : (Cond.classLink own ik cls).before args s' = true := vx_ot_at hW0 hvm.symm (hgood _ List.mem_cons_self) hk
  have hini' : (Cond.initialized cls).before args s' = true := vx_ot_at hW0 hvm.symm (hgood _ (List.mem_cons_of_mem _ List.mem_cons_self)) hini
  have hU' : vx_Zq Bundle.tN "UNASSIGNED_STACK" Bundle.steD A s' s'.heap := by rw [hhp]; exact vx_Zq.moved hW0.alike (hU.kept hS.2.1)
  have hN' : vx_Zq Bundle.tN "SUPPRESSED_SENTINEL" Bundle.listD A s' s'.heap := by rw [hhp]; exact vx_Zq.moved hW0.alike (hN.kept hS.2.1)
  have h : ∀ w ∈ Bundle.ownAtoms0 own ic cls names, w.before args s' = true := vx_own hat' (vx_isRefq hU'.1) (vx_isRefq hN'.1) hU'.2.word hN'.2.word
  have hown' : s'.vm.findClass own = some m.cls := by rw [hvm]; exact hown
  have hins : (Cond.instantiable cls 6).before args s' = true := h _ (by simp [Bundle.ownAtoms0])
  obtain ⟨vm₁, cX, kX, hfX, hkX, -, -, X₁, st1⟩ := Y.newCold hexec (own := own) (C := cls) (index := ik) (n := 6) hown' hk' hins hini'
    (g := F0 m pc ls rest) rfl (by rw [hb]; exact d0) (Nat.le_refl _) (Nat.le_refl _)
  generalize hT1 : (T.setVm vm₁).pushCell { cls := cX, slots := kX.instanceTypes.map defaultValue, vm := .none } = T1 at X₁ st1
  have hcat : (Value.ref T.heap.size).category = 1 := rfl
  have hcellA : T1.heap[T.heap.size]? = some (freshCell cX kX) := by rw [← hT1]; exact State.heap_pushCell_size _ _
  have d3' : decode c.code (pc + 3) = .ok (.dup, 1) := by rw [hb]; exact d3
  obtain ⟨U, hsteps, hrun, hend, hW, hsame, ce, hce, hO⟩ := X₁.ctorThrow0 hexec htr (own := own) (cls := cls) (names := names) (ic := ic) hown' hcls hnames h (fun x hx => nomatch hx) hfX hkX hcellA (by rw [hhp, hT]; exact Nat.le_refl _)
    (g := { method := m, pc := pc + 4, locals := ls, stack := .ref T.heap.size :: .ref T.heap.size :: rest, locked := none }) rfl hsize rfl rfl (rest := rest) rfl
    (by rw [hb]; exact d4) (by rw [hb]; exact d7) hout hRframes (by simp only [List.map_cons, List.sum_cons, hcat]; omega) hlocks
  obtain ⟨f1, f2⟩ := vx_frame hsame
  rw [hhp] at f1 f2
  have hWs : s.WarmedH U.vm := State.WarmedH.trans hW0 hW
  have hcl : s.vm.findClass cls = some ce.cls := by
    have h9 := hO.cls
    rw [hvm] at h9
    exact h9
  have hall : s.sameButNew ({ U with vm := s.vm } : State) locs mc ms := by
    subst hA
    obtain ⟨e1, e2⟩ := hsame
    rw [State.setFrames_setFrames] at e1
    have h2 : (T.setVm s.vm).sameButNew ({ U with vm := s.vm } : State) [] (0 + 1) (0 + 6) := ⟨e1, e2⟩
    have h3 := X.same.trans h2
    rw [List.append_nil] at h3
    exact h3.mono hc hs
  refine ⟨U, ?_, .threw T.heap.size, hrun, hend, Or.inr ⟨T.heap.size, rfl, cls, ce, locs, hx U hWs.alike f1 (fun q hq => f2 q hq (fun z hz => nomatch hz)), hce, hO.vm, hcl, hWs, hall, hf⟩⟩
  refine st1 _ ?_
  show Steps p.tables e below (T1.setTop { method := m, pc := pc + 3, locals := ls, stack := .ref T.heap.size :: rest, locked := none }) _
  jvm_step X₁.here [X₁.here.top, hexec, d3', Value.category]
  exact hsteps
/-- 'throw new E("text")': new; dup; ldc; invokespecial; athrow -/
theorem vx_throwS {cc : ByteArray} {pc : Nat} (hexec : p.tables.exec = Jvm.exec) (hb : c.code = cc) (hl : l.stackTraces = false) {own cls text : String} {names : List String} {ik is ic mc ms sa : Nat} {A : Nat → Prop}
    (hown : s.vm.findClass own = some m.cls) (hcls : Bundle.fit cls = true) (hnames : ∀ n ∈ names, Bundle.fit n = true)
    (hk : (Cond.classLink own ik cls).before args s = true) (hini : (Cond.initialized cls).before args s = true) (hstr : vk_R own is text sa s) (hat : ∀ w ∈ vx_atS own ic cls names, w.before args s = true)
    (hgood : ∀ w ∈ Cond.classLink own ik cls :: Cond.initialized cls :: vx_atS own ic cls names, vx_ot w = true)
    (hU : vx_Zq Bundle.tN "UNASSIGNED_STACK" Bundle.steD A s s.heap) (hN : vx_Zq Bundle.tN "SUPPRESSED_SENTINEL" Bundle.listD A s s.heap) (hS : va_S A s.heap H locs) (hsize : ls.size = c.maxLocals)
    (d0 : decode cc pc = .ok (.new ik, 3)) (d3 : decode cc (pc + 3) = .ok (.dup, 1)) (d4 : decode cc (pc + 4) = .ok (.ldc is, 2)) (d6 : decode cc (pc + 6) = .ok (.invokespecial ic, 3)) (d9 : decode cc (pc + 9) = .ok (.athrow, 1))
    (hout : ∀ x ∈ c.exceptionTable.toList, covers x (pc + 9) = false)
    (hRframes : names.length + 3 < R.frames) (hRlocals : (rest.map fun v => v.category).sum + (13 * (names.length + 1) + 43) ≤ R.locals) (hRcells : cells + 1 ≤ R.cells) (hRslots : slots + 6 ≤ R.slots) (hlocks : meth.locks = false)
    (hx : ∀ t : State, s.vm.Alike t.vm → H.size ≤ t.heap.size → (∀ q : Nat, q < H.size → t.heap[q]? = H[q]?) → XC cls s t)
    (hf : ∀ z ∈ locs, free z.base) (hc : cells + 1 ≤ mc) (hs : slots + 6 ≤ ms) :
    W p l e R s m args below meth c H locs cells slots (vx_MQ below Qc XC args s mc ms free) (F0 m pc ls rest) := by
  intro T hT X
  have htr : e.platform.stackTraces = false := (show e.platform.stackTraces = l.stackTraces by rw [X.admits.platform]).trans hl
  have Y := vx_rebase X (R' := { frames := R.frames, locals := R.locals, cells := 1, slots := 6 }) (Nat.le_refl _) (Nat.le_refl _) hRcells hRslots
  obtain ⟨s', hA⟩ : ∃ z, z = (T.setVm s.vm).setFrames (.invoking m args :: below) := ⟨_, rfl⟩
  rw [← hA] at Y
  have hvm : s'.vm = s.vm := by rw [hA]; rfl
  have hhp : s'.heap = H := by rw [hA]; exact hT
  have hW0 : s.WarmedH s'.vm := by rw [hvm]; exact State.WarmedH.refl s
  have hat' : ∀ w ∈ vx_atS own ic cls names, w.before args s' = true := fun w hw => vx_ot_at hW0 hvm.symm (hgood w (List.mem_cons_of_mem _ (List.mem_cons_of_mem _ hw))) (hat w hw)
  have hk' : (Cond.classLink own ik cls).before args s' = true := vx_ot_at hW0 hvm.symm (hgood _ List.mem_cons_self) hk
  have hini' : (Cond.initialized cls).before args s' = true := vx_ot_at hW0 hvm.symm (hgood _ (List.mem_cons_of_mem _ List.mem_cons_self)) hini
  have hU' : vx_Zq Bundle.tN "UNASSIGNED_STACK" Bundle.steD A s' s'.heap := by rw [hhp]; exact vx_Zq.moved hW0.alike (hU.kept hS.2.1)
  have hN' : vx_Zq Bundle.tN "SUPPRESSED_SENTINEL" Bundle.listD A s' s'.heap := by rw [hhp]; exact vx_Zq.moved hW0.alike (hN.kept hS.2.1)
  have h : ∀ w ∈ Bundle.ownAtoms own ic cls names, w.before args s' = true := vx_own hat' (vx_isRefq hU'.1) (vx_isRefq hN'.1) hU'.2.word hN'.2.word
  have hown' : s'.vm.findClass own = some m.cls := by rw [hvm]; exact hown
  have hins : (Cond.instantiable cls 6).before args s' = true := h _ (by simp [Bundle.ownAtoms])
  obtain ⟨vm₁, cX, kX, hfX, hkX, -, -, X₁, st1⟩ := Y.newCold hexec (own := own) (C := cls) (index := ik) (n := 6) hown' hk' hins hini'
    (g := F0 m pc ls rest) rfl (by rw [hb]; exact d0) (Nat.le_refl _) (Nat.le_refl _)
  generalize hT1 : (T.setVm vm₁).pushCell { cls := cX, slots := kX.instanceTypes.map defaultValue, vm := .none } = T1 at X₁ st1
  have hcat : (Value.ref T.heap.size).category = 1 := rfl
  have hcellA : T1.heap[T.heap.size]? = some (freshCell cX kX) := by rw [← hT1]; exact State.heap_pushCell_size _ _
  have d3' : decode c.code (pc + 3) = .ok (.dup, 1) := by rw [hb]; exact d3
  have d4' : decode c.code (pc + 4) = .ok (.ldc is, 2) := by rw [hb]; exact d4
  have hstr' : vk_R own is text sa s' := vk_R.warm hW0 hstr
  obtain ⟨U, hsteps, hrun, hend, hW, hsame, ce, hce, hO⟩ := X₁.ctorThrowS hexec htr (own := own) (cls := cls) (names := names) (ic := ic) hown' hcls hnames h (fun x hx => nomatch hx) hfX hkX hcellA (by rw [hhp, hT]; exact Nat.le_refl _) (msg := .ref sa) rfl
    (g := { method := m, pc := pc + 6, locals := ls, stack := .ref sa :: .ref T.heap.size :: .ref T.heap.size :: rest, locked := none }) rfl hsize rfl rfl (rest := rest) rfl
    (by rw [hb]; exact d6) (by rw [hb]; exact d9) hout hRframes (by simp only [List.map_cons, List.sum_cons, hcat]; omega) hlocks
  obtain ⟨f1, f2⟩ := vx_frame hsame
  rw [hhp] at f1 f2
  have hWs : s.WarmedH U.vm := State.WarmedH.trans hW0 hW
  have hcl : s.vm.findClass cls = some ce.cls := by
    have h9 := hO.cls
    rw [hvm] at h9
    exact h9
  have hall : s.sameButNew ({ U with vm := s.vm } : State) locs mc ms := by
    subst hA
    obtain ⟨e1, e2⟩ := hsame
    rw [State.setFrames_setFrames] at e1
    have h2 : (T.setVm s.vm).sameButNew ({ U with vm := s.vm } : State) [] (0 + 1) (0 + 6) := ⟨e1, e2⟩
    have h3 := X.same.trans h2
    rw [List.append_nil] at h3
    exact h3.mono hc hs
  refine ⟨U, ?_, .threw T.heap.size, hrun, hend, Or.inr ⟨T.heap.size, rfl, cls, ce, locs, hx U hWs.alike f1 (fun q hq => f2 q hq (fun z hz => nomatch hz)), hce, hO.vm, hcl, hWs, hall, hf⟩⟩
  refine st1 _ ?_
  show Steps p.tables e below (T1.setTop { method := m, pc := pc + 3, locals := ls, stack := .ref T.heap.size :: rest, locked := none }) _
  jvm_step X₁.here [X₁.here.top, hexec, d3', Value.category]
  exact X₁.ldcString hexec (own := own) (text := text) (index := is) (a := sa) hown' hstr'.1 hstr'.2
    (g := { method := m, pc := pc + 4, locals := ls, stack := .ref T.heap.size :: .ref T.heap.size :: rest, locked := none }) rfl d4' _ hsteps
/-- 'throw new E("text")', the text by a wide index -/
theorem vx_throwSW {cc : ByteArray} {pc : Nat} (hexec : p.tables.exec = Jvm.exec) (hb : c.code = cc) (hl : l.stackTraces = false) {own cls text : String} {names : List String} {ik is ic mc ms sa : Nat} {A : Nat → Prop}
    (hown : s.vm.findClass own = some m.cls) (hcls : Bundle.fit cls = true) (hnames : ∀ n ∈ names, Bundle.fit n = true)
    (hk : (Cond.classLink own ik cls).before args s = true) (hini : (Cond.initialized cls).before args s = true) (hstr : vk_R own is text sa s) (hat : ∀ w ∈ vx_atS own ic cls names, w.before args s = true)
    (hgood : ∀ w ∈ Cond.classLink own ik cls :: Cond.initialized cls :: vx_atS own ic cls names, vx_ot w = true)
    (hU : vx_Zq Bundle.tN "UNASSIGNED_STACK" Bundle.steD A s s.heap) (hN : vx_Zq Bundle.tN "SUPPRESSED_SENTINEL" Bundle.listD A s s.heap) (hS : va_S A s.heap H locs) (hsize : ls.size = c.maxLocals)
    (d0 : decode cc pc = .ok (.new ik, 3)) (d3 : decode cc (pc + 3) = .ok (.dup, 1)) (d4 : decode cc (pc + 4) = .ok (.ldc_w is, 3)) (d7 : decode cc (pc + 7) = .ok (.invokespecial ic, 3)) (d10 : decode cc (pc + 10) = .ok (.athrow, 1))
    (hout : ∀ x ∈ c.exceptionTable.toList, covers x (pc + 10) = false)
    (hRframes : names.length + 3 < R.frames) (hRlocals : (rest.map fun v => v.category).sum + (13 * (names.length + 1) + 43) ≤ R.locals) (hRcells : cells + 1 ≤ R.cells) (hRslots : slots + 6 ≤ R.slots) (hlocks : meth.locks = false)
    (hx : ∀ t : State, s.vm.Alike t.vm → H.size ≤ t.heap.size → (∀ q : Nat, q < H.size → t.heap[q]? = H[q]?) → XC cls s t)
    (hf : ∀ z ∈ locs, free z.base) (hc : cells + 1 ≤ mc) (hs : slots + 6 ≤ ms) :
    W p l e R s m args below meth c H locs cells slots (vx_MQ below Qc XC args s mc ms free) (F0 m pc ls rest) := by
  intro T hT X
  have htr : e.platform.stackTraces = false := (show e.platform.stackTraces = l.stackTraces by rw [X.admits.platform]).trans hl
  have Y := vx_rebase X (R' := { frames := R.frames, locals := R.locals, cells := 1, slots := 6 }) (Nat.le_refl _) (Nat.le_refl _) hRcells hRslots
  obtain ⟨s', hA⟩ : ∃ z, z = (T.setVm s.vm).setFrames (.invoking m args :: below) := ⟨_, rfl⟩
  rw [← hA] at Y
  have hvm : s'.vm = s.vm := by rw [hA]; rfl
  have hhp : s'.heap = H := by rw [hA]; exact hT
  have hW0 : s.WarmedH s'.vm := by rw [hvm]; exact State.WarmedH.refl s
  have hat' : ∀ w ∈ vx_atS own ic cls names, w.before args s' = true := fun w hw => vx_ot_at hW0 hvm.symm (hgood w (List.mem_cons_of_mem _ (List.mem_cons_of_mem _ hw))) (hat w hw)
  have hk' : (Cond.classLink own ik cls).before args s' = true := vx_ot_at hW0 hvm.symm (hgood _ List.mem_cons_self) hk
  have hini' : (Cond.initialized cls).before args s' = true := vx_ot_at hW0 hvm.symm (hgood _ (List.mem_cons_of_mem _ List.mem_cons_self)) hini
  have hU' : vx_Zq Bundle.tN "UNASSIGNED_STACK" Bundle.steD A s' s'.heap := by rw [hhp]; exact vx_Zq.moved hW0.alike (hU.kept hS.2.1)
  have hN' : vx_Zq Bundle.tN "SUPPRESSED_SENTINEL" Bundle.listD A s' s'.heap := by rw [hhp]; exact vx_Zq.moved hW0.alike (hN.kept hS.2.1)
  have h : ∀ w ∈ Bundle.ownAtoms own ic cls names, w.before args s' = true := vx_own hat' (vx_isRefq hU'.1) (vx_isRefq hN'.1) hU'.2.word hN'.2.word
  have hown' : s'.vm.findClass own = some m.cls := by rw [hvm]; exact hown
  have hins : (Cond.instantiable cls 6).before args s' = true := h _ (by simp [Bundle.ownAtoms])
  obtain ⟨vm₁, cX, kX, hfX, hkX, -, -, X₁, st1⟩ := Y.newCold hexec (own := own) (C := cls) (index := ik) (n := 6) hown' hk' hins hini'
    (g := F0 m pc ls rest) rfl (by rw [hb]; exact d0) (Nat.le_refl _) (Nat.le_refl _)
  generalize hT1 : (T.setVm vm₁).pushCell { cls := cX, slots := kX.instanceTypes.map defaultValue, vm := .none } = T1 at X₁ st1
  have hcat : (Value.ref T.heap.size).category = 1 := rfl
  have hcellA : T1.heap[T.heap.size]? = some (freshCell cX kX) := by rw [← hT1]; exact State.heap_pushCell_size _ _
  have d3' : decode c.code (pc + 3) = .ok (.dup, 1) := by rw [hb]; exact d3
  have d4' : decode c.code (pc + 4) = .ok (.ldc_w is, 3) := by rw [hb]; exact d4
  have hstr' : vk_R own is text sa s' := vk_R.warm hW0 hstr
  obtain ⟨U, hsteps, hrun, hend, hW, hsame, ce, hce, hO⟩ := X₁.ctorThrowS hexec htr (own := own) (cls := cls) (names := names) (ic := ic) hown' hcls hnames h (fun x hx => nomatch hx) hfX hkX hcellA (by rw [hhp, hT]; exact Nat.le_refl _) (msg := .ref sa) rfl
    (g := { method := m, pc := pc + 7, locals := ls, stack := .ref sa :: .ref T.heap.size :: .ref T.heap.size :: rest, locked := none }) rfl hsize rfl rfl (rest := rest) rfl
    (by rw [hb]; exact d7) (by rw [hb]; exact d10) hout hRframes (by simp only [List.map_cons, List.sum_cons, hcat]; omega) hlocks
  obtain ⟨f1, f2⟩ := vx_frame hsame
  rw [hhp] at f1 f2
  have hWs : s.WarmedH U.vm := State.WarmedH.trans hW0 hW
  have hcl : s.vm.findClass cls = some ce.cls := by
    have h9 := hO.cls
    rw [hvm] at h9
    exact h9
  have hall : s.sameButNew ({ U with vm := s.vm } : State) locs mc ms := by
    subst hA
    obtain ⟨e1, e2⟩ := hsame
    rw [State.setFrames_setFrames] at e1
    have h2 : (T.setVm s.vm).sameButNew ({ U with vm := s.vm } : State) [] (0 + 1) (0 + 6) := ⟨e1, e2⟩
    have h3 := X.same.trans h2
    rw [List.append_nil] at h3
    exact h3.mono hc hs
  refine ⟨U, ?_, .threw T.heap.size, hrun, hend, Or.inr ⟨T.heap.size, rfl, cls, ce, locs, hx U hWs.alike f1 (fun q hq => f2 q hq (fun z hz => nomatch hz)), hce, hO.vm, hcl, hWs, hall, hf⟩⟩
  refine st1 _ ?_
  show Steps p.tables e below (T1.setTop { method := m, pc := pc + 3, locals := ls, stack := .ref T.heap.size :: rest, locked := none }) _
  jvm_step X₁.here [X₁.here.top, hexec, d3', Value.category]
  exact X₁.ldcStringW hexec (own := own) (text := text) (index := is) (a := sa) hown' hstr'.1 hstr'.2
    (g := { method := m, pc := pc + 4, locals := ls, stack := .ref T.heap.size :: .ref T.heap.size :: rest, locked := none }) rfl d4' _ hsteps
end Ends
section Bodies
variable {l : Launch}
theorem vx_ofW {y : MethodName} {ws ws' : List Cond} {rm : Room} {Pc : Array Value → State → Prop} {Qc : Array Value → State → Outcome → State → Prop} {XC : String → State → State → Prop} {mc ms : Nat} {free : Addr → Prop} {cc : ByteArray} {maxL : Nat} {ret : Option FieldType}
    (hy : plainName y.cls = true) (hw : ws = Cond.code y cc maxL ret :: ws')
    (body : ∀ p e s m args below meth c s₁, BodyLoose p l y (headSpec ws rm) cc maxL ret e s m args below meth c s₁ → c.maxLocals = maxL → (∀ x ∈ c.exceptionTable.toList, False) → Pc args s →
      W p l e (headSpec ws rm).room s m args below meth c s.heap [] 0 0 (vx_MQ below Qc XC args s mc ms free) (entryFrame m args maxL)) : vx_Met l y ws rm Pc Qc XC mc ms free := by
  refine MetFree.of_bodyS (code := cc) (maxLocals := maxL) (ret := ret) hy ?_ ?_
  · intro args s m h hn
    obtain ⟨meth, c, h1, h2, h3, h4, h5, h6, -, -⟩ := Cond.code_spec hn (atoms_spec (ws := ws) h _ (by rw [hw]; exact List.mem_cons_self))
    exact ⟨meth, c, h1, h2, h3, h4, h5, h6⟩
  · intro p e s m args below meth c s₁ B hml hP _
    have hh0 : s₁.heap = s.heap := by rw [B.state]; rfl
    have ht : ∀ x ∈ c.exceptionTable.toList, False := by
      obtain ⟨meth9, c9, h1, h2, -, -, -, -, h7, -⟩ := Cond.code_spec B.named (atoms_spec (ws := ws) B.pre _ (by rw [hw]; exact List.mem_cons_self))
      cases Option.some.inj (h1.symm.trans B.method)
      cases Option.some.inj (h2.symm.trans (Stand.of_body B).code)
      intro x hx
      rw [Array.isEmpty_iff.mp h7] at hx
      cases hx
    obtain ⟨t, a1, o, b1, b2, b3⟩ := body p e s m args below meth c s₁ B hml ht hP s₁ hh0 (Stand.of_body B)
    exact ⟨t, o, a1, b1, b2, b3⟩
/-- the table of a body with handlers -/
theorem vx_table {p : Program} {x y : MethodName} {S : Spec} {cc bytes : ByteArray} {maxL maxL' : Nat} {ret ret' : Option FieldType} {e : Env} {s s₁ : State} {m : MethodId} {args : Array Value} {below : List Frame} {meth : Method} {c : Code} {hh : List (Nat × Nat × Nat × Nat)}
    (B : BodyLoose p l y S cc maxL ret e s m args below meth c s₁) (h : (Cond.codeWith y bytes maxL' ret' hh).before args s = true) : c.exceptionTable.toList = tableOf hh := by
  obtain ⟨m9, meth9, c9, hn9, h1, h2, -, -, h6, -⟩ := Cond.codeWith_spec h
  cases Option.some.inj (hn9.symm.trans B.named)
  cases Option.some.inj (h1.symm.trans B.method)
  cases Option.some.inj (h2.symm.trans (Stand.of_body B).code)
  rw [← h6, table_eq]
end Bodies
end VXA
/-! ===== END ===== -/
/-! ===== BEGIN a static call of a method with an exception table ===== -/
section VXS
variable {p : Program} {l : Launch} {e : Env} {R : Room} {s : State} {m : MethodId} {args : Array Value} {below : List Frame} {meth : Method} {c : Code} {T : State} {H : Heap} {locs : List Loc} {cells slots : Nat}
abbrev vx_CSW (R : Room) (s : State) (args : Array Value) (own : String) (index : Nat) (y : MethodName) (bytes : ByteArray) (maxL : Nat) (ret : Option FieldType) (hh : List (Nat × Nat × Nat × Nat)) (ws : List Cond) (rm : Room) (mc ms n : Nat) : Prop :=
  (rm.cells = mc ∧ rm.slots = ms ∧ rm.frames + 1 ≤ R.frames ∧ 8 + (maxL + 11) + rm.locals ≤ R.locals ∧ (∀ w ∈ ws, ∀ (a' : Array Value) (U : State), s.WarmedH U.vm → w.before a' U = true) ∧ Cond.codeWith y bytes maxL ret hh ∈ ws) ∧
  (Cond.codeWith y bytes maxL ret hh).before args s = true ∧ (Cond.initialized y.cls).before args s = true ∧ (y.cls ≠ "java/lang/invoke/MethodHandle" ∧ y.cls ≠ "java/lang/invoke/VarHandle") ∧
  (∀ sig, parseMethodDescriptor y.desc = some sig → n = sig.parameters.length) ∧ (Cond.methodLink own index y).before args s = true ∧ (Cond.static y).before args s = true
theorem vx_cwSW {own : String} {index maxL mc ms : Nat} {y : MethodName} {bytes : ByteArray} {ret : Option FieldType} {hh : List (Nat × Nat × Nat × Nat)} {Ts ws ws' : List Cond} {rm : Room} (n : Nat) (ht : ∀ w ∈ Ts, w.before args s = true) (hT : GoodIn Ts (va_wsS own index y ws)) (hw : ws = Cond.codeWith y bytes maxL ret hh :: ws') (hrc : rm.cells = mc) (hrs : rm.slots = ms)
    (hd : y.cls ≠ "java/lang/invoke/MethodHandle" ∧ y.cls ≠ "java/lang/invoke/VarHandle" ∧ (parseMethodDescriptor y.desc).map (fun d => d.parameters.length) = some n) (hR : rm.frames + 1 ≤ R.frames ∧ 8 + (maxL + 11) + rm.locals ≤ R.locals) :
    vx_CSW R s args own index y bytes maxL ret hh ws rm mc ms n := by
  have ok : ∀ w ∈ va_wsS own index y ws, w.before args s = true := fun w h => ht w (hT w h).1
  have hG : GoodIn Ts ws := fun w h => hT w (by unfold va_wsS; exact List.mem_append_right _ h)
  have hc : Cond.codeWith y bytes maxL ret hh ∈ ws := by rw [hw]; exact List.mem_cons_self
  refine ⟨⟨hrc, hrs, hR.1, hR.2, pay_in ht hG, hc⟩, ht _ (hG _ hc).1, ok _ (by simp [va_wsS]), ⟨hd.1, hd.2.1⟩, fun sig h => ?_, ok _ (by simp [va_wsS]), ok _ (by simp [va_wsS])⟩
  have h2 := hd.2.2
  rw [h] at h2
  exact (Option.some.inj h2).symm
theorem vx_callSW (X : Stand p l e R s m args below meth c T locs cells slots) (hexec : p.tables.exec = Jvm.exec) {own : String} {index : Nat} {y : MethodName} {bytes : ByteArray} {maxL : Nat} {ret : Option FieldType} {hh : List (Nat × Nat × Nat × Nat)}
    (hown : s.vm.findClass own = some m.cls) (hlink : (Cond.methodLink own index y).before args s = true) (hstat : (Cond.static y).before args s = true) (hinit : (Cond.initialized y.cls).before args s = true)
    (hcode : (Cond.codeWith y bytes maxL ret hh).before args s = true) (hy : y.cls ≠ "java/lang/invoke/MethodHandle" ∧ y.cls ≠ "java/lang/invoke/VarHandle")
    {W9 : Nat} {Pre : Pt → Array Value → Prop} {Post : Pt → Array Value → Option Value → Pt → Prop} (hK : Back l R p e below s args y 3 W9 Pre Post)
    {g : JFrame} (hg : g.method = m) (hsize : g.locals.size = c.maxLocals) {argsL rest : List Value} (hlen : ∀ sig, parseMethodDescriptor y.desc = some sig → argsL.length = sig.parameters.length)
    (hstack : g.stack = argsL.reverse ++ rest) (hW : 2 * g.monitorRoom + (rest.map fun v => v.category).sum ≤ W9) (hdg : decode c.code g.pc = .ok (.invokestatic index, 3))
    (hpre : ∀ vm₁, s.WarmedH vm₁ → Pre ⟨T.setVm vm₁, locs, cells, slots⟩ argsL.toArray) :
    ∃ (v : Option Value) (vm₁ : Vm) (B : Pt), s.WarmedH vm₁ ∧ Stand p l e R s m args below meth c B.U B.locs B.cells B.slots ∧ Post ⟨T.setVm vm₁, locs, cells, slots⟩ argsL.toArray v B ∧
      ∀ target, Steps p.tables e below (B.U.setTop { g with pc := g.pc + 3, stack := v.toList ++ rest }) target → Steps p.tables e below (T.setTop g) target := by
  obtain ⟨mk, methM, cM, hnamed, hmethM, -, -, -, -, -, -, hsigM⟩ := Cond.codeWith_spec hcode
  have hstatic : methM.isStatic = true := Cond.static_spec hnamed hmethM hstat
  obtain ⟨kP, hkP, -⟩ := className_of_methodNamed hnamed
  have hinitP : kP.init = .initialized := Cond.initialized_spec (findClass_of_methodNamed hnamed) hkP hinit
  obtain ⟨vm₁, X₁, hstep₁⟩ := X.invokestatic hexec hown hlink hnamed hmethM hstatic hkP hinitP hy (g := g) hg (argsL := argsL) (rest := rest) (hlen _ hsigM) hstack hdg
  obtain ⟨v, B, X', hpost, hsteps⟩ := hK m meth c ⟨T.setVm vm₁, locs, cells, slots⟩ { g with stack := rest } (.invokestatic index) mk argsL.toArray X₁ hg hsize hdg hW (X₁.named hnamed) (hpre vm₁ X₁.warmed)
  exact ⟨v, vm₁, B, X₁.warmed, X', hpost, fun target h => hstep₁ _ fun acts => by rw [doInvoke_state]; exact hsteps.trans h⟩
theorem vx_runSW {y : MethodName} {bytes cc : ByteArray} {maxL nL mc ms n index : Nat} {ret : Option FieldType} {hh : List (Nat × Nat × Nat × Nat)} {ws : List Cond} {rm : Room} {Pc : Array Value → State → Prop} {Qc : Array Value → State → Outcome → State → Prop} {free : Addr → Prop} {Ts : List Cond} {own : String} {As rest : List Value} {g : JFrame}
    (S : CallFix p m c cc nL s args Ts own) (hM : Met l y ws rm Pc Qc mc ms free) (cw : vx_CSW R s args own index y bytes maxL ret hh ws rm mc ms n) (hp : PreS s H Pc As)
    (hg : g.method = m) (hn : As.length = n) (hsize : g.locals.size = nL) (hstack : g.stack = As.reverse ++ rest) (hW : 2 * g.monitorRoom + (rest.map fun v => v.category).sum ≤ 8) (hdg : decode cc g.pc = .ok (.invokestatic index, 3)) (hf : cells + mc ≤ R.cells ∧ slots + ms ≤ R.slots) :
    va_Run p l e R s m args below meth c H locs cells slots mc ms g rest (Qc As.toArray) (free) := by
  obtain ⟨⟨hrc, hrs, hfr, hlo, hws, hcw⟩, hcode, hini, hy, hlen, hl, hstt⟩ := cw
  have hK : Back l R p e below s args y 3 8 (PreOf R mc ms Pc) (PostOf Qc mc ms free) := va_backW (hh := hh) (bytes := bytes) (maxL := maxL) (ret := ret) hM hp.1 hrc hrs hfr hlo hws hcw (fun a' U hW => word_at hW (Or.inl (by first | rfl | simp [Cond.onTables, Cond.keeps, Cond.steady])) hini)
  obtain ⟨hx, hb, hml, ho, -⟩ := S
  intro T hT X
  obtain ⟨v, vm₁, ⟨U', l2, c2, s2⟩, hW₁, X', ⟨g', mk, t, L, e1, e2, hq, h1, hL, h2, h3⟩, st⟩ := vx_callSW X hx (hh := hh) (bytes := bytes) (maxL := maxL) (ret := ret) ho hl hstt hini hcode hy hK hg (hsize.trans hml.symm) (argsL := As) (rest := rest) (fun sig h => hn.trans (hlen sig h)) hstack hW (by rw [hb]; exact hdg)
    (fun vm₁ hW₁ => ⟨hf.1, hf.2, hp.2 (T.setVm vm₁) hT hW₁⟩)
  dsimp only [Pt.U, Pt.locs, Pt.cells, Pt.slots] at X' e1 e2 h1 h2 h3 st
  subst h1; subst h2; subst h3
  exact ⟨v, (T.setVm vm₁).calling g' mk As.toArray, t, U', L, hT, X', hL, e1, e2, hq, st⟩
/-- not caught here, past rows that name other classes: it goes on to the caller -/
theorem vx_outP {p : Program} {l : Launch} {e : Env} {R : Room} {s : State} {m : MethodId} {args : Array Value} {below : List Frame} {meth : Method} {c : Code} {H : Heap} {locs : List Loc} {cells slots : Nat} {free : Addr → Prop} {ls : Array Slot} {rest : List Value} {Qc : Array Value → State → Outcome → State → Prop} {XC : String → State → State → Prop}
    {pc : Nat} {own E : String} {ce : Cell} {q : Addr} {mc ms : Nat} (hown : s.vm.findClass own = some m.cls) (hlocks : meth.locks = false)
    (hpass : ∀ z ∈ c.exceptionTable.toList, covers z pc = false ∨ (z.catchType ≠ 0 ∧ ∃ nm : String, (Cond.classLink own z.catchType nm).before args s = true ∧ va_Nc E nm s)) (hcell : H[q]? = some ce) (hv : ce.vm = .none) (hcl : s.vm.findClass E = some ce.cls)
    (hx : ∀ t : State, t.heap = H → s.vm.Alike t.vm → XC E s t) (hf : ∀ z ∈ locs, free z.base) (hc : cells ≤ mc) (hs : slots ≤ ms) :
    vx_W p l e R s m args below meth c H locs cells slots (vx_MQ below Qc XC args s mc ms free) (F0 m pc ls rest) q := by
  intro T hT X
  have hpl : e.platform.magicAccessors = ({} : Platform).magicAccessors := by rw [X.admits.platform]
  obtain ⟨vm', hW', X', st⟩ := X.outThrough hlocks q (g := F0 m pc ls rest) rfl rfl rfl (cell := ce) (by rw [hT]; exact hcell) (by rw [hv]; rfl)
    (by obtain ⟨k9, h9, -⟩ := Vm.findClass_spec hcl; exact ⟨k9, h9⟩) (fun z hz => by
      rcases hpass z hz with h | ⟨hz0, nm, hl1, hn1⟩
      · exact Or.inl h
      · obtain ⟨c6, hc6, hcl6⟩ := Cond.classLink_spec hown hl1 e.platform hpl
        obtain ⟨a8, b8, h1, h2, h3⟩ := hn1
        cases Option.some.inj (h1.symm.trans hcl)
        cases Option.some.inj (h2.symm.trans hc6)
        exact Or.inr ⟨hz0, _, hcl6, h3⟩)
  obtain ⟨g₀, hfr⟩ := X'.frames_eq
  have hcell9 : ((T.setVm vm').setFrames (.throwing q :: below)).heap[q]? = some ce := by
    show T.heap[q]? = some ce
    rw [hT]; exact hcell
  have hend : Ended ((T.setVm vm').setFrames (.throwing q :: below)) below (.threw q) := State.frames_setFrames _ (State.cur_lt_of_frames hfr)
  refine ⟨(T.setVm vm').setFrames (.throwing q :: below), ?_, .threw q, X'.here.running, hend, Or.inr ⟨q, rfl, E, ce, locs, hx _ hT (X'.ends _).1.alike, hcell9, hv, hcl, (X'.ends _).1, (X'.ends _).2.mono hc hs, hf⟩⟩
  rw [X.pushThrowing_eq]
  exact st
/-- a thing of a world lies in the heap -/
theorem vx_lt {D : va_G} {cl : List vw_C} {ws : va_W} {H1 : Heap} (h : va_P D cl ws H1) {k : Nat} {q : Nat × va_E} (hk : ws[k]? = some q) : q.1 < H1.size := (h k q hk).lt
end VXS
/-! ===== END ===== -/
/-! ===== BEGIN methods with a table of their own: called by a name, returning or throwing ===== -/
section VXH
/-! vx_backW, vx_callVX, vx_callSX, vx_callVW, vx_runVW, vx_runVX, vx_runSX, vx_ofWH follow the same proofs as their sisters above (Free/Laws.lean, Shelf42/LK1.lean); vx_outP calls Shelf42/NT130.lean (outThrough). -/
section
variable {l : Launch} {R : Room} {p : Program} {e : Env} {below : List Frame} {s : State} {sargs : Array Value} {y : MethodName} {len W9 : Nat}
theorem vx_backW {ws : List Cond} {rm : Room} {Pc : Array Value → State → Prop} {Qc : Array Value → State → Outcome → State → Prop} {XC : String → State → State → Prop} {mc ms : Nat} {free : Addr → Prop} {bytes : ByteArray} {maxL : Nat} {ret : Option FieldType} {hh : List (Nat × Nat × Nat × Nat)}
    (hM : vx_Met l y ws rm Pc Qc XC mc ms free) (hblind : FrameBlind Pc) (hrc : rm.cells = mc) (hrs : rm.slots = ms)
    (hframes : rm.frames + 1 ≤ R.frames) (hlocals : W9 + (maxL + 11) + rm.locals ≤ R.locals)
    (hws : ∀ w ∈ ws, ∀ a' U, s.WarmedH U.vm → w.before a' U = true) (hcode : Cond.codeWith y bytes maxL ret hh ∈ ws) (hinit : ∀ a' U, s.WarmedH U.vm → (Cond.initialized y.cls).before a' U = true) :
    vx_Back l R p e below s sargs y len W9 (PreOf R mc ms Pc) (PostOf Qc mc ms free) (vx_Post XC mc ms free) := by
  intro m meth c A g ig mk a X hg hsize hdg hW hn hp
  have h1 : (headSpec ws rm).pre.before a A.U = true := atoms_intro fun w hw => hws w hw _ _ X.warmed
  have h2 : (Cond.codeWith y bytes maxL ret hh).before a A.U = true := hws _ hcode _ _ X.warmed
  have h3 : (Cond.initialized y.cls).before a A.U = true := hinit _ _ X.warmed
  have h4 : A.cells + (headSpec ws rm).room.cells ≤ R.cells := by rw [show (headSpec ws rm).room.cells = mc from hrc]; exact hp.1
  have h5 : A.slots + (headSpec ws rm).room.slots ≤ R.slots := by rw [show (headSpec ws rm).room.slots = ms from hrs]; exact hp.2.1
  have hPc : Pc a (A.U.calling g mk a) := hblind _ _ _ _ hp.2.2
  obtain ⟨U, Ls, c0, s0⟩ := A
  dsimp only [Pt.U, Pt.locs, Pt.cells, Pt.slots] at h1 h2 h3 h4 h5 X hn hPc ⊢
  obtain ⟨m9, methY, cY, hn9, hmY, hcY, -, hlY, -⟩ := Cond.codeWith_spec h2
  cases Option.some.inj (hn9.symm.trans hn)
  obtain ⟨kY, hkY, -⟩ := className_of_methodNamed hn
  have hinitY : kY.init = .initialized := Cond.initialized_spec (findClass_of_methodNamed hn) hkY h3
  have h : At U g.method c below := by rw [hg]; exact X.here
  have hlocals9 : W9 + (maxL + 11) + (headSpec ws rm).room.locals ≤ R.locals := hlocals
  have happ : (headSpec ws rm).appliesLoose y e.platform (U.calling g mk a) = true :=
    Spec.appliesLoose_calling (g := g) h hdg hn hkY hinitY
      (X.room_calling (g := g) (R' := (headSpec ws rm).room) hsize hmY hcY hframes (by rw [hlY]; omega) h4 h5) h1
  obtain ⟨mid, hmid⟩ := h.above
  have hfr : (U.setTop g).frames = (.java g :: mid) ++ below := by rw [State.frames_setTop' g h.top, hmid]; rfl
  obtain ⟨o, s₂, hsteps, -, hend, hq⟩ := Steps.callFree hM p X.admits X.cas X.clock (acts := []) hfr happ hPc trivial
  have hq' : vx_Q Qc XC mc ms free a (U.calling g mk a) o s₂ := hq
  rw [State.frames_setTop' g h.top] at hend
  obtain ⟨g₀, hg0⟩ := Option.isSome_iff_exists.mp h.top
  obtain ⟨r, hr⟩ := State.topJava?_eq_some.mp hg0
  have hr' : (({ U with heap := s₂.heap, slotsUsed := s₂.slotsUsed } : State).setVm s₂.vm).frames = .java g₀ :: r := hr
  rcases hq' with ⟨hqc, L, hfe, hL⟩ | ⟨q, rfl, E, ce, L, hx, hce, hcv, hcl, hW₂, hsm, hL⟩
  · obtain ⟨⟨v, rfl⟩, hW₂, e2, q2, q3, q4, q5, q6⟩ := id hfe
    have e3 : s₂ = ({ (U.calling g mk a).setFrames s₂.frames with heap := s₂.heap, slotsUsed := s₂.slotsUsed } : State).setVm s₂.vm := by
      have : s₂ = ({ s₂ with vm := (U.calling g mk a).vm } : State).setVm s₂.vm := rfl
      rw [e2] at this
      exact this
    obtain ⟨c₂, i₂, len₂, hc₂, hd₂, hf₂⟩ := hend
    have hW' : U.WarmedH s₂.vm := hW₂
    have hcc : c₂ = c := by
      have h1 : s₂.code? g.method = U.code? g.method := by
        rw [State.code?_eq, State.code?_eq, hW'.alike.method?]
      exact Option.some.inj (hc₂.symm.trans (h1.trans h.code))
    subst hcc
    have hlen : len₂ = len := by rw [hdg] at hd₂; cases hd₂; rfl
    subst hlen
    have hs₂ : s₂ = (({ U with heap := s₂.heap, slotsUsed := s₂.slotsUsed } : State).setVm s₂.vm).setTop { g with pc := g.pc + len₂, stack := v.toList ++ g.stack } := by
      refine e3.trans ?_
      rw [hf₂, State.calling_eq h.top, State.setFrames_setFrames, State.setTop_of_frames _ hr', hr]
      rfl
    have hsame : U.sameButNew ({ U with heap := s₂.heap, slotsUsed := s₂.slotsUsed } : State) L mc ms := by
      refine ⟨?_, q2, q3, q4, q5, q6⟩
      obtain ⟨t, ht, -⟩ := State.frames_cons hr
      show ({ U with heap := s₂.heap, slotsUsed := s₂.slotsUsed } : State) = { U.setFrames U.frames with heap := s₂.heap, slotsUsed := s₂.slotsUsed }
      rw [State.setFrames_self ht]
    subst hg
    refine Or.inl ⟨v, ⟨(({ U with heap := s₂.heap, slotsUsed := s₂.slotsUsed } : State).setVm s₂.vm), Ls ++ L, c0 + mc, s0 + ms⟩,
      ⟨X.admits, X.cas, X.clock, X.frames, X.room, X.hears, X.method, X.code, (X.here.setHeapUsed s₂.heap s₂.slotsUsed).setVm hW'.alike, X.tail, State.WarmedH.trans X.warmed hW', X.limits, X.bytes, X.same.trans (hsame.setVm s.vm)⟩,
      ⟨g, mk, s₂, L, rfl, rfl, hqc, rfl, hL, rfl, rfl⟩, ?_⟩
    show Steps p.tables e below _ ((({ U with heap := s₂.heap, slotsUsed := s₂.slotsUsed } : State).setVm s₂.vm).setTop { g with pc := g.pc + len₂, stack := v.toList ++ g.stack })
    rw [← hs₂]
    exact hsteps
  · obtain ⟨e2, q2, q3, q4, q5, q6⟩ := id hsm
    have e3 : s₂ = ({ (U.calling g mk a).setFrames s₂.frames with heap := s₂.heap, slotsUsed := s₂.slotsUsed } : State).setVm s₂.vm := by
      have : s₂ = ({ s₂ with vm := (U.calling g mk a).vm } : State).setVm s₂.vm := rfl
      rw [e2] at this
      exact this
    have hf₂ : s₂.frames = .throwing q :: .java g :: U.frames.tail := hend
    have hW' : U.WarmedH s₂.vm := hW₂
    have hs₂ : s₂ = ((({ U with heap := s₂.heap, slotsUsed := s₂.slotsUsed } : State).setVm s₂.vm).setTop g).pushFrame (.throwing q) := by
      refine e3.trans ?_
      rw [hf₂, State.calling_eq h.top, State.setFrames_setFrames, State.pushFrame, State.frames_setTop _ hr', State.setTop_of_frames _ hr', State.setFrames_setFrames, hr]
      rfl
    have hsame : U.sameButNew ({ U with heap := s₂.heap, slotsUsed := s₂.slotsUsed } : State) L mc ms := by
      refine ⟨?_, q2, q3, q4, q5, q6⟩
      obtain ⟨t, ht, -⟩ := State.frames_cons hr
      show ({ U with heap := s₂.heap, slotsUsed := s₂.slotsUsed } : State) = { U.setFrames U.frames with heap := s₂.heap, slotsUsed := s₂.slotsUsed }
      rw [State.setFrames_self ht]
    subst hg
    refine Or.inr ⟨q, ⟨(({ U with heap := s₂.heap, slotsUsed := s₂.slotsUsed } : State).setVm s₂.vm), Ls ++ L, c0 + mc, s0 + ms⟩,
      ⟨X.admits, X.cas, X.clock, X.frames, X.room, X.hears, X.method, X.code, (X.here.setHeapUsed s₂.heap s₂.slotsUsed).setVm hW'.alike, X.tail, State.WarmedH.trans X.warmed hW', X.limits, X.bytes, X.same.trans (hsame.setVm s.vm)⟩,
      ⟨g, mk, s₂, L, E, ce, rfl, rfl, hx, hce, hcv, hcl, rfl, hL, rfl, rfl⟩, ?_⟩
    show Steps p.tables e below _ (((({ U with heap := s₂.heap, slotsUsed := s₂.slotsUsed } : State).setVm s₂.vm).setTop g).pushFrame (.throwing q))
    rw [← hs₂]
    exact hsteps
end
variable {p : Program} {l : Launch} {e : Env} {R : Room} {s : State} {m : MethodId} {args : Array Value} {below : List Frame} {meth : Method} {c : Code} {T : State} {H : Heap} {locs : List Loc} {cells slots : Nat}
theorem vx_callVX (X : Stand p l e R s m args below meth c T locs cells slots) (hexec : p.tables.exec = Jvm.exec) {own C : String} {index : Nat} {y : MethodName} {bytes : ByteArray} {maxL : Nat} {ret : Option FieldType} {hh : List (Nat × Nat × Nat × Nat)}
    (hown : s.vm.findClass own = some m.cls) (hlink : (Cond.methodLink own index y).before args s = true) (hinst : (Cond.instanceMethod y).before args s = true) (hsel : (Cond.selects C y y).before args s = true)
    (hcode : (Cond.codeWith y bytes maxL ret hh).before args s = true) (hy : y.cls ≠ "java/lang/invoke/MethodHandle" ∧ y.cls ≠ "java/lang/invoke/VarHandle")
    {W9 : Nat} {Pre : Pt → Array Value → Prop} {Post : Pt → Array Value → Option Value → Pt → Prop} {PostX : Pt → Array Value → Addr → Pt → Prop} (hK : vx_Back l R p e below s args y 3 W9 Pre Post PostX)
    {b : Addr} {cellB : Cell} (hcell : T.heap[b]? = some cellB) (hobj : cellB.vm.isStatics = false) (hcls : s.vm.findClass C = some cellB.cls)
    {g : JFrame} (hg : g.method = m) (hsize : g.locals.size = c.maxLocals) {argsL rest : List Value} (hlen : ∀ sig, parseMethodDescriptor y.desc = some sig → argsL.length = sig.parameters.length)
    (hstack : g.stack = argsL.reverse ++ .ref b :: rest) (hW : 2 * g.monitorRoom + (rest.map fun v => v.category).sum ≤ W9) (hdg : decode c.code g.pc = .ok (.invokevirtual index, 3))
    (hpre : ∀ vm₁, s.WarmedH vm₁ → Pre ⟨T.setVm vm₁, locs, cells, slots⟩ (Value.ref b :: argsL).toArray) :
    (∃ (v : Option Value) (vm₁ : Vm) (B : Pt), s.WarmedH vm₁ ∧ Stand p l e R s m args below meth c B.U B.locs B.cells B.slots ∧ Post ⟨T.setVm vm₁, locs, cells, slots⟩ (Value.ref b :: argsL).toArray v B ∧
      ∀ target, Steps p.tables e below (B.U.setTop { g with pc := g.pc + 3, stack := v.toList ++ rest }) target → Steps p.tables e below (T.setTop g) target) ∨
    (∃ (q : Addr) (vm₁ : Vm) (B : Pt), s.WarmedH vm₁ ∧ Stand p l e R s m args below meth c B.U B.locs B.cells B.slots ∧ PostX ⟨T.setVm vm₁, locs, cells, slots⟩ (Value.ref b :: argsL).toArray q B ∧
      Steps p.tables e below (T.setTop g) ((B.U.setTop { g with stack := rest }).pushFrame (.throwing q))) := by
  obtain ⟨mk, methM, hnamed, hmethM, hstM, habM⟩ := Cond.instanceMethod_spec hinst
  obtain ⟨m8, methM', cM, hn8, hmethM', -, -, -, -, -, -, hsigM⟩ := Cond.codeWith_spec hcode
  cases Option.some.inj (hn8.symm.trans hnamed)
  cases hmethM.symm.trans hmethM'
  obtain ⟨c2, r2, m2, q1, q2, q3, q4, kP, hkP, hkPi⟩ := Cond.selects_spec hsel
  cases hcls.symm.trans q1
  cases (State.methodFound?_of_named hnamed hy).symm.trans q2
  cases hnamed.symm.trans q3
  have hselP : selectMethod e.platform s.vm cellB.cls mk = .method mk := by rw [Launch.admits_selectMethod X.admits]; exact q4
  obtain ⟨vm₁, X₁, hstep₁⟩ := X.invokevirtual hexec hown hlink hnamed hmethM hstM hkP hkPi hy (a := b) (cell := cellB) hcell
    (fun z h => by rw [h] at hobj; cases hobj) hselP hmethM habM hkP hkPi (g := g) hg (argsL := argsL) (rest := rest) (hlen _ hsigM) hstack hdg
  rcases hK m meth c ⟨T.setVm vm₁, locs, cells, slots⟩ { g with stack := rest } (.invokevirtual index) mk (Value.ref b :: argsL).toArray X₁ hg hsize hdg hW (X₁.named hnamed) (hpre vm₁ X₁.warmed) with ⟨v, B, X', hpost, hsteps⟩ | ⟨q, B, X', hpost, hsteps⟩
  · exact Or.inl ⟨v, vm₁, B, X₁.warmed, X', hpost, fun target h => hstep₁ _ fun acts => by rw [doInvoke_state]; exact hsteps.trans h⟩
  · exact Or.inr ⟨q, vm₁, B, X₁.warmed, X', hpost, hstep₁ _ fun acts => by rw [doInvoke_state]; exact hsteps⟩
theorem vx_callSX (X : Stand p l e R s m args below meth c T locs cells slots) (hexec : p.tables.exec = Jvm.exec) {own : String} {index : Nat} {y : MethodName} {bytes : ByteArray} {maxL : Nat} {ret : Option FieldType} {hh : List (Nat × Nat × Nat × Nat)}
    (hown : s.vm.findClass own = some m.cls) (hlink : (Cond.methodLink own index y).before args s = true) (hstat : (Cond.static y).before args s = true) (hinit : (Cond.initialized y.cls).before args s = true)
    (hcode : (Cond.codeWith y bytes maxL ret hh).before args s = true) (hy : y.cls ≠ "java/lang/invoke/MethodHandle" ∧ y.cls ≠ "java/lang/invoke/VarHandle")
    {W9 : Nat} {Pre : Pt → Array Value → Prop} {Post : Pt → Array Value → Option Value → Pt → Prop} {PostX : Pt → Array Value → Addr → Pt → Prop} (hK : vx_Back l R p e below s args y 3 W9 Pre Post PostX)
    {g : JFrame} (hg : g.method = m) (hsize : g.locals.size = c.maxLocals) {argsL rest : List Value} (hlen : ∀ sig, parseMethodDescriptor y.desc = some sig → argsL.length = sig.parameters.length)
    (hstack : g.stack = argsL.reverse ++ rest) (hW : 2 * g.monitorRoom + (rest.map fun v => v.category).sum ≤ W9) (hdg : decode c.code g.pc = .ok (.invokestatic index, 3))
    (hpre : ∀ vm₁, s.WarmedH vm₁ → Pre ⟨T.setVm vm₁, locs, cells, slots⟩ argsL.toArray) :
    (∃ (v : Option Value) (vm₁ : Vm) (B : Pt), s.WarmedH vm₁ ∧ Stand p l e R s m args below meth c B.U B.locs B.cells B.slots ∧ Post ⟨T.setVm vm₁, locs, cells, slots⟩ argsL.toArray v B ∧
      ∀ target, Steps p.tables e below (B.U.setTop { g with pc := g.pc + 3, stack := v.toList ++ rest }) target → Steps p.tables e below (T.setTop g) target) ∨
    (∃ (q : Addr) (vm₁ : Vm) (B : Pt), s.WarmedH vm₁ ∧ Stand p l e R s m args below meth c B.U B.locs B.cells B.slots ∧ PostX ⟨T.setVm vm₁, locs, cells, slots⟩ argsL.toArray q B ∧
      Steps p.tables e below (T.setTop g) ((B.U.setTop { g with stack := rest }).pushFrame (.throwing q))) := by
  obtain ⟨mk, methM, cM, hnamed, hmethM, -, -, -, -, -, -, hsigM⟩ := Cond.codeWith_spec hcode
  have hstatic : methM.isStatic = true := Cond.static_spec hnamed hmethM hstat
  obtain ⟨kP, hkP, -⟩ := className_of_methodNamed hnamed
  have hinitP : kP.init = .initialized := Cond.initialized_spec (findClass_of_methodNamed hnamed) hkP hinit
  obtain ⟨vm₁, X₁, hstep₁⟩ := X.invokestatic hexec hown hlink hnamed hmethM hstatic hkP hinitP hy (g := g) hg (argsL := argsL) (rest := rest) (hlen _ hsigM) hstack hdg
  rcases hK m meth c ⟨T.setVm vm₁, locs, cells, slots⟩ { g with stack := rest } (.invokestatic index) mk argsL.toArray X₁ hg hsize hdg hW (X₁.named hnamed) (hpre vm₁ X₁.warmed) with ⟨v, B, X', hpost, hsteps⟩ | ⟨q, B, X', hpost, hsteps⟩
  · exact Or.inl ⟨v, vm₁, B, X₁.warmed, X', hpost, fun target h => hstep₁ _ fun acts => by rw [doInvoke_state]; exact hsteps.trans h⟩
  · exact Or.inr ⟨q, vm₁, B, X₁.warmed, X', hpost, hstep₁ _ fun acts => by rw [doInvoke_state]; exact hsteps⟩
theorem vx_callVW (X : Stand p l e R s m args below meth c T locs cells slots) (hexec : p.tables.exec = Jvm.exec) {own C : String} {index : Nat} {y : MethodName} {bytes : ByteArray} {maxL : Nat} {ret : Option FieldType} {hh : List (Nat × Nat × Nat × Nat)}
    (hown : s.vm.findClass own = some m.cls) (hlink : (Cond.methodLink own index y).before args s = true) (hinst : (Cond.instanceMethod y).before args s = true) (hsel : (Cond.selects C y y).before args s = true)
    (hcode : (Cond.codeWith y bytes maxL ret hh).before args s = true) (hy : y.cls ≠ "java/lang/invoke/MethodHandle" ∧ y.cls ≠ "java/lang/invoke/VarHandle")
    {W9 : Nat} {Pre : Pt → Array Value → Prop} {Post : Pt → Array Value → Option Value → Pt → Prop} (hK : Back l R p e below s args y 3 W9 Pre Post)
    {b : Addr} {cellB : Cell} (hcell : T.heap[b]? = some cellB) (hobj : cellB.vm.isStatics = false) (hcls : s.vm.findClass C = some cellB.cls)
    {g : JFrame} (hg : g.method = m) (hsize : g.locals.size = c.maxLocals) {argsL rest : List Value} (hlen : ∀ sig, parseMethodDescriptor y.desc = some sig → argsL.length = sig.parameters.length)
    (hstack : g.stack = argsL.reverse ++ .ref b :: rest) (hW : 2 * g.monitorRoom + (rest.map fun v => v.category).sum ≤ W9) (hdg : decode c.code g.pc = .ok (.invokevirtual index, 3))
    (hpre : ∀ vm₁, s.WarmedH vm₁ → Pre ⟨T.setVm vm₁, locs, cells, slots⟩ (Value.ref b :: argsL).toArray) :
    ∃ (v : Option Value) (vm₁ : Vm) (B : Pt), s.WarmedH vm₁ ∧ Stand p l e R s m args below meth c B.U B.locs B.cells B.slots ∧ Post ⟨T.setVm vm₁, locs, cells, slots⟩ (Value.ref b :: argsL).toArray v B ∧
      ∀ target, Steps p.tables e below (B.U.setTop { g with pc := g.pc + 3, stack := v.toList ++ rest }) target → Steps p.tables e below (T.setTop g) target := by
  obtain ⟨mk, methM, hnamed, hmethM, hstM, habM⟩ := Cond.instanceMethod_spec hinst
  obtain ⟨m8, methM', cM, hn8, hmethM', -, -, -, -, -, -, hsigM⟩ := Cond.codeWith_spec hcode
  cases Option.some.inj (hn8.symm.trans hnamed)
  cases hmethM.symm.trans hmethM'
  obtain ⟨c2, r2, m2, q1, q2, q3, q4, kP, hkP, hkPi⟩ := Cond.selects_spec hsel
  cases hcls.symm.trans q1
  cases (State.methodFound?_of_named hnamed hy).symm.trans q2
  cases hnamed.symm.trans q3
  have hselP : selectMethod e.platform s.vm cellB.cls mk = .method mk := by rw [Launch.admits_selectMethod X.admits]; exact q4
  obtain ⟨vm₁, X₁, hstep₁⟩ := X.invokevirtual hexec hown hlink hnamed hmethM hstM hkP hkPi hy (a := b) (cell := cellB) hcell
    (fun z h => by rw [h] at hobj; cases hobj) hselP hmethM habM hkP hkPi (g := g) hg (argsL := argsL) (rest := rest) (hlen _ hsigM) hstack hdg
  obtain ⟨v, B, X', hpost, hsteps⟩ := hK m meth c ⟨T.setVm vm₁, locs, cells, slots⟩ { g with stack := rest } (.invokevirtual index) mk (Value.ref b :: argsL).toArray X₁ hg hsize hdg hW (X₁.named hnamed) (hpre vm₁ X₁.warmed)
  exact ⟨v, vm₁, B, X₁.warmed, X', hpost, fun target h => hstep₁ _ fun acts => by rw [doInvoke_state]; exact hsteps.trans h⟩
abbrev vx_CVW (R : Room) (s : State) (args : Array Value) (own C : String) (index : Nat) (y : MethodName) (bytes : ByteArray) (maxL : Nat) (ret : Option FieldType) (hh : List (Nat × Nat × Nat × Nat)) (ws : List Cond) (rm : Room) (mc ms n : Nat) : Prop :=
  (rm.cells = mc ∧ rm.slots = ms ∧ rm.frames + 1 ≤ R.frames ∧ 8 + (maxL + 11) + rm.locals ≤ R.locals ∧ (∀ w ∈ ws, ∀ (a' : Array Value) (U : State), s.WarmedH U.vm → w.before a' U = true) ∧ Cond.codeWith y bytes maxL ret hh ∈ ws) ∧
  (Cond.codeWith y bytes maxL ret hh).before args s = true ∧ (Cond.initialized y.cls).before args s = true ∧ (y.cls ≠ "java/lang/invoke/MethodHandle" ∧ y.cls ≠ "java/lang/invoke/VarHandle") ∧
  (∀ sig, parseMethodDescriptor y.desc = some sig → n = sig.parameters.length) ∧ (Cond.methodLink own index y).before args s = true ∧ (Cond.instanceMethod y).before args s = true ∧ (Cond.selects C y y).before args s = true
theorem vx_cwVW {own C : String} {index maxL mc ms : Nat} {y : MethodName} {bytes : ByteArray} {ret : Option FieldType} {hh : List (Nat × Nat × Nat × Nat)} {Ts ws ws' : List Cond} {rm : Room} (n : Nat) (ht : ∀ w ∈ Ts, w.before args s = true) (hT : GoodIn Ts (wsV own index C y ws)) (hw : ws = Cond.codeWith y bytes maxL ret hh :: ws') (hrc : rm.cells = mc) (hrs : rm.slots = ms)
    (hd : y.cls = C ∧ y.cls ≠ "java/lang/invoke/MethodHandle" ∧ y.cls ≠ "java/lang/invoke/VarHandle" ∧ (parseMethodDescriptor y.desc).map (fun d => d.parameters.length) = some n) (hR : rm.frames + 1 ≤ R.frames ∧ 8 + (maxL + 11) + rm.locals ≤ R.locals) :
    vx_CVW R s args own C index y bytes maxL ret hh ws rm mc ms n := by
  obtain ⟨hC, hd⟩ := hd
  subst hC
  have ok : ∀ w ∈ wsV own index y.cls y ws, w.before args s = true := fun w h => ht w (hT w h).1
  have hG : GoodIn Ts ws := fun w h => hT w (by unfold wsV; exact List.mem_append_right _ h)
  have hc : Cond.codeWith y bytes maxL ret hh ∈ ws := by rw [hw]; exact List.mem_cons_self
  refine ⟨⟨hrc, hrs, hR.1, hR.2, pay_in ht hG, hc⟩, ht _ (hG _ hc).1, ok _ (by simp [wsV]), ⟨hd.1, hd.2.1⟩, fun sig h => ?_, ok _ (by simp [wsV]), ok _ (by simp [wsV]), ok _ (by simp [wsV])⟩
  have h2 := hd.2.2
  rw [h] at h2
  exact (Option.some.inj h2).symm
theorem vx_runVW {y : MethodName} {bytes cc : ByteArray} {maxL nL mc ms n index : Nat} {ret : Option FieldType} {hh : List (Nat × Nat × Nat × Nat)} {ws : List Cond} {rm : Room} {Pc : Array Value → State → Prop} {Qc : Array Value → State → Outcome → State → Prop} {free : Addr → Prop} {Ts : List Cond} {own C : String} {b : Addr} {As rest : List Value} {g : JFrame}
    (S : CallFix p m c cc nL s args Ts own) (hM : Met l y ws rm Pc Qc mc ms free) (cw : vx_CVW R s args own C index y bytes maxL ret hh ws rm mc ms n) (hp : PreV s H C b Pc As)
    (hg : g.method = m) (hn : As.length = n) (hsize : g.locals.size = nL) (hstack : g.stack = As.reverse ++ .ref b :: rest) (hW : 2 * g.monitorRoom + (rest.map fun v => v.category).sum ≤ 8) (hdg : decode cc g.pc = .ok (.invokevirtual index, 3)) (hf : cells + mc ≤ R.cells ∧ slots + ms ≤ R.slots) :
    va_Run p l e R s m args below meth c H locs cells slots mc ms g rest (Qc (Value.ref b :: As).toArray) free := by
  obtain ⟨⟨hrc, hrs, hfr, hlo, hws, hcw⟩, hcode, hini, hy, hlen, hl, hin, hse⟩ := cw
  have hK : Back l R p e below s args y 3 8 (PreOf R mc ms Pc) (PostOf Qc mc ms free) := va_backW (hh := hh) (bytes := bytes) (maxL := maxL) (ret := ret) hM hp.1 hrc hrs hfr hlo hws hcw (fun a' U hW => word_at hW (Or.inl (by first | rfl | simp [Cond.onTables, Cond.keeps, Cond.steady])) hini)
  obtain ⟨hx, hb, hml, ho, -⟩ := S
  obtain ⟨-, ⟨cellB, hcB, hoB, hclB⟩, hPc⟩ := hp
  intro T hT X
  obtain ⟨v, vm₁, ⟨U', l2, c2, s2⟩, hW₁, X', ⟨g', mk, t, L, e1, e2, hq, h1, hL, h2, h3⟩, st⟩ := vx_callVW X hx (C := C) (hh := hh) (bytes := bytes) (maxL := maxL) (ret := ret) ho hl hin hse hcode hy hK (by rw [hT]; exact hcB) hoB hclB hg (hsize.trans hml.symm) (argsL := As) (rest := rest) (fun sig h => hn.trans (hlen sig h)) hstack hW (by rw [hb]; exact hdg)
    (fun vm₁ hW₁ => ⟨hf.1, hf.2, hPc (T.setVm vm₁) hT hW₁⟩)
  dsimp only [Pt.U, Pt.locs, Pt.cells, Pt.slots] at X' e1 e2 h1 h2 h3 st
  subst h1; subst h2; subst h3
  exact ⟨v, (T.setVm vm₁).calling g' mk (Value.ref b :: As).toArray, t, U', L, hT, X', hL, e1, e2, hq, st⟩
section
variable {y : MethodName} {bytes cc : ByteArray} {maxL nL mc ms n index : Nat} {ret : Option FieldType} {ws : List Cond} {rm : Room} {Pc : Array Value → State → Prop} {Qc : Array Value → State → Outcome → State → Prop} {XC : String → State → State → Prop} {free : Addr → Prop} {Ts : List Cond} {own C : String} {b : Addr} {As rest : List Value} {g : JFrame}
theorem vx_runVX {hh : List (Nat × Nat × Nat × Nat)} (S : CallFix p m c cc nL s args Ts own) (hM : vx_Met l y ws rm Pc Qc XC mc ms free) (cw : vx_CVW R s args own C index y bytes maxL ret hh ws rm mc ms n) (hp : PreV s H C b Pc As)
    (hg : g.method = m) (hn : As.length = n) (hsize : g.locals.size = nL) (hstack : g.stack = As.reverse ++ .ref b :: rest) (hW : 2 * g.monitorRoom + (rest.map fun v => v.category).sum ≤ 8) (hdg : decode cc g.pc = .ok (.invokevirtual index, 3)) (hf : cells + mc ≤ R.cells ∧ slots + ms ≤ R.slots) :
    vx_Run p l e R s m args below meth c H locs cells slots mc ms g rest (Qc (Value.ref b :: As).toArray) XC free := by
  obtain ⟨⟨hrc, hrs, hfr, hlo, hws, hcw⟩, hcode, hini, hy, hlen, hl, hin, hse⟩ := cw
  have hK : vx_Back l R p e below s args y 3 8 (PreOf R mc ms Pc) (PostOf Qc mc ms free) (vx_Post XC mc ms free) := vx_backW (hh := hh) (bytes := bytes) (maxL := maxL) (ret := ret) hM hp.1 hrc hrs hfr hlo hws hcw (fun a' U hW => word_at hW (Or.inl (by first | rfl | simp [Cond.onTables, Cond.keeps, Cond.steady])) hini)
  obtain ⟨hx, hb, hml, ho, -⟩ := S
  obtain ⟨-, ⟨cellB, hcB, hoB, hclB⟩, hPc⟩ := hp
  intro T hT X
  rcases vx_callVX X hx (C := C) (hh := hh) (bytes := bytes) (maxL := maxL) (ret := ret) ho hl hin hse hcode hy hK (by rw [hT]; exact hcB) hoB hclB hg (hsize.trans hml.symm) (argsL := As) (rest := rest) (fun sig h => hn.trans (hlen sig h)) hstack hW (by rw [hb]; exact hdg)
    (fun vm₁ hW₁ => ⟨hf.1, hf.2, hPc (T.setVm vm₁) hT hW₁⟩) with ⟨v, vm₁, ⟨U', l2, c2, s2⟩, hW₁, X', ⟨g', mk, t, L, e1, e2, hq, h1, hL, h2, h3⟩, st⟩ | ⟨q, vm₁, ⟨U', l2, c2, s2⟩, hW₁, X', ⟨g', mk, t, L, E, ce, e1, e2, hq, hce, hcv, hcl, h1, hL, h2, h3⟩, st⟩
  · dsimp only [Pt.U, Pt.locs, Pt.cells, Pt.slots] at X' e1 e2 h1 h2 h3 st
    subst h1; subst h2; subst h3
    exact Or.inl ⟨v, (T.setVm vm₁).calling g' mk (Value.ref b :: As).toArray, t, U', L, hT, X', hL, e1, e2, hq, st⟩
  · dsimp only [Pt.U, Pt.locs, Pt.cells, Pt.slots] at X' e1 e2 h1 h2 h3 st hcl
    subst h1; subst h2; subst h3
    exact Or.inr ⟨q, (T.setVm vm₁).calling g' mk (Value.ref b :: As).toArray, t, U', L, E, ce, hT, X', hL, e1, e2, hq, hce, hcv, vx_cls hW₁ hcl, st⟩
theorem vx_runSX {hh : List (Nat × Nat × Nat × Nat)} (S : CallFix p m c cc nL s args Ts own) (hM : vx_Met l y ws rm Pc Qc XC mc ms free) (cw : vx_CSW R s args own index y bytes maxL ret hh ws rm mc ms n) (hp : PreS s H Pc As)
    (hg : g.method = m) (hn : As.length = n) (hsize : g.locals.size = nL) (hstack : g.stack = As.reverse ++ rest) (hW : 2 * g.monitorRoom + (rest.map fun v => v.category).sum ≤ 8) (hdg : decode cc g.pc = .ok (.invokestatic index, 3)) (hf : cells + mc ≤ R.cells ∧ slots + ms ≤ R.slots) :
    vx_Run p l e R s m args below meth c H locs cells slots mc ms g rest (Qc As.toArray) XC free := by
  obtain ⟨⟨hrc, hrs, hfr, hlo, hws, hcw⟩, hcode, hini, hy, hlen, hl, hstt⟩ := cw
  have hK : vx_Back l R p e below s args y 3 8 (PreOf R mc ms Pc) (PostOf Qc mc ms free) (vx_Post XC mc ms free) := vx_backW (hh := hh) (bytes := bytes) (maxL := maxL) (ret := ret) hM hp.1 hrc hrs hfr hlo hws hcw (fun a' U hW => word_at hW (Or.inl (by first | rfl | simp [Cond.onTables, Cond.keeps, Cond.steady])) hini)
  obtain ⟨hx, hb, hml, ho, -⟩ := S
  intro T hT X
  rcases vx_callSX X hx (hh := hh) (bytes := bytes) (maxL := maxL) (ret := ret) ho hl hstt hini hcode hy hK hg (hsize.trans hml.symm) (argsL := As) (rest := rest) (fun sig h => hn.trans (hlen sig h)) hstack hW (by rw [hb]; exact hdg)
    (fun vm₁ hW₁ => ⟨hf.1, hf.2, hp.2 (T.setVm vm₁) hT hW₁⟩) with ⟨v, vm₁, ⟨U', l2, c2, s2⟩, hW₁, X', ⟨g', mk, t, L, e1, e2, hq, h1, hL, h2, h3⟩, st⟩ | ⟨q, vm₁, ⟨U', l2, c2, s2⟩, hW₁, X', ⟨g', mk, t, L, E, ce, e1, e2, hq, hce, hcv, hcl, h1, hL, h2, h3⟩, st⟩
  · dsimp only [Pt.U, Pt.locs, Pt.cells, Pt.slots] at X' e1 e2 h1 h2 h3 st
    subst h1; subst h2; subst h3
    exact Or.inl ⟨v, (T.setVm vm₁).calling g' mk As.toArray, t, U', L, hT, X', hL, e1, e2, hq, st⟩
  · dsimp only [Pt.U, Pt.locs, Pt.cells, Pt.slots] at X' e1 e2 h1 h2 h3 st hcl
    subst h1; subst h2; subst h3
    exact Or.inr ⟨q, (T.setVm vm₁).calling g' mk As.toArray, t, U', L, E, ce, hT, X', hL, e1, e2, hq, hce, hcv, vx_cls hW₁ hcl, st⟩
end
end VXH
theorem vx_ofWH {l : Launch} {y : MethodName} {ws ws' : List Cond} {rm : Room} {Pc : Array Value → State → Prop} {Qc : Array Value → State → Outcome → State → Prop} {XC : String → State → State → Prop} {mc ms : Nat} {free : Addr → Prop} {cc : ByteArray} {maxL : Nat} {ret : Option FieldType} {hh : List (Nat × Nat × Nat × Nat)}
    (hy : plainName y.cls = true) (hw : ws = Cond.codeWith y cc maxL ret hh :: ws')
    (body : ∀ p e s m args below meth c s₁, BodyLoose p l y (headSpec ws rm) cc maxL ret e s m args below meth c s₁ → c.maxLocals = maxL → Pc args s →
      W p l e (headSpec ws rm).room s m args below meth c s.heap [] 0 0 (vx_MQ below Qc XC args s mc ms free) (entryFrame m args maxL)) : vx_Met l y ws rm Pc Qc XC mc ms free := by
  refine MetFree.of_bodyS (code := cc) (maxLocals := maxL) (ret := ret) hy ?_ ?_
  · intro args s m h hn
    obtain ⟨m9, meth, c, hn9, h1, h2, h3, h4, -, h5, h6, -⟩ := Cond.codeWith_spec (atoms_spec (ws := ws) h _ (by rw [hw]; exact List.mem_cons_self))
    cases hn.symm.trans hn9
    exact ⟨meth, c, h1, h2, h3, h4, h5, h6⟩
  · intro p e s m args below meth c s₁ B hml hP _
    have hh0 : s₁.heap = s.heap := by rw [B.state]; rfl
    obtain ⟨t, a1, o, b1, b2, b3⟩ := body p e s m args below meth c s₁ B hml hP s₁ hh0 (Stand.of_body B)
    exact ⟨t, o, a1, b1, b2, b3⟩
/-! ===== END ===== -/

/-! ===== BEGIN printed: names, fields, word lists, decode rows ===== -/
def RX0 : String := "FieldStore$Act"
def TX0 : u_T := fun k => match k with
  | 0 => ("FieldStore$Act", "job", "I", true)
  | 1 => ("FieldStore$Act", "field", "I", true)
  | 2 => ("FieldStore$Act", "value", "I", true)
  | 3 => ("FieldStore$Act", "version", "I", true)
  | _ => ("FieldStore$Act", "reason", "I", false)
def tyX0 : Nat → FieldType := fun k => match k with
  | 0 => .int
  | 1 => .int
  | 2 => .int
  | 3 => .int
  | _ => .int
abbrev wsX00 : List Cond := u_ws RX0 TX0 5
theorem nmX0 : ∀ a, a < 5 → ∀ b, b < 5 → a ≠ b → (TX0 a).2.1 ≠ (TX0 b).2.1 := by decide +kernel
theorem tyX0_ok : ∀ k, k < 5 → parseFieldDescriptor (TX0 k).2.2.1 = some (tyX0 k) := by decide +kernel
abbrev cX0_init : ByteArray := prog_2_method_1_code
def yX0_init : MethodName := ⟨RX0, "<init>", "(IIII)V"⟩
def RX1 : String := "FieldStore$Device"
def TX1 : u_T := fun k => match k with
  | 0 => ("FieldStore$Device", "room", "I", false)
  | 1 => ("FieldStore$Device", "copies", "[LFieldStore$Fields;", true)
  | 2 => ("FieldStore$Device", "copied", "[Z", true)
  | 3 => ("FieldStore$Device", "copyCount", "I", false)
  | 4 => ("FieldStore$Device", "madeJobs", "Ljava/util/ArrayList;", true)
  | 5 => ("FieldStore$Device", "unnumbered", "I", false)
  | 6 => ("FieldStore$Device", "acts", "Ljava/util/ArrayList;", true)
  | 7 => ("FieldStore$Device", "nextAct", "I", false)
  | _ => ("FieldStore$Device", "refused", "Ljava/util/ArrayList;", true)
def tyX1 : Nat → FieldType := fun k => match k with
  | 0 => .int
  | 1 => .array (.object "FieldStore$Fields")
  | 2 => .array .boolean
  | 3 => .int
  | 4 => .object "java/util/ArrayList"
  | 5 => .int
  | 6 => .object "java/util/ArrayList"
  | 7 => .int
  | _ => .object "java/util/ArrayList"
abbrev wsX10 : List Cond := u_ws RX1 TX1 9
theorem nmX1 : ∀ a, a < 9 → ∀ b, b < 9 → a ≠ b → (TX1 a).2.1 ≠ (TX1 b).2.1 := by decide +kernel
theorem tyX1_ok : ∀ k, k < 9 → parseFieldDescriptor (TX1 k).2.2.1 = some (tyX1 k) := by decide +kernel
abbrev cX1_init : ByteArray := prog_3_method_1_code
def yX1_init : MethodName := ⟨RX1, "<init>", "()V"⟩
abbrev cX1_madeJob : ByteArray := prog_3_method_2_code
def yX1_madeJob : MethodName := ⟨RX1, "madeJob", "(I)LFieldStore$Made;"⟩
abbrev cX1_centralNumber : ByteArray := prog_3_method_3_code
def yX1_centralNumber : MethodName := ⟨RX1, "centralNumber", "(I)I"⟩
abbrev cX1_heldFields : ByteArray := prog_3_method_4_code
def yX1_heldFields : MethodName := ⟨RX1, "heldFields", "(I)LFieldStore$Fields;"⟩
abbrev cX1_heldCount : ByteArray := prog_3_method_5_code
def yX1_heldCount : MethodName := ⟨RX1, "heldCount", "()I"⟩
abbrev cX1_dropCopies : ByteArray := prog_3_method_6_code
def yX1_dropCopies : MethodName := ⟨RX1, "dropCopies", "()V"⟩
abbrev cX1_hold : ByteArray := prog_3_method_7_code
def yX1_hold : MethodName := ⟨RX1, "hold", "(ILFieldStore$Fields;)V"⟩
abbrev cX1_giveNumber : ByteArray := prog_3_method_8_code
def yX1_giveNumber : MethodName := ⟨RX1, "giveNumber", "(LFieldStore$Made;I)V"⟩
abbrev cX1_takesActs : ByteArray := prog_3_method_9_code
def yX1_takesActs : MethodName := ⟨RX1, "takesActs", "()Z"⟩
abbrev cX1_waitingCount : ByteArray := prog_3_method_10_code
def yX1_waitingCount : MethodName := ⟨RX1, "waitingCount", "()I"⟩
abbrev cX1_makeJob : ByteArray := prog_3_method_11_code
def yX1_makeJob : MethodName := ⟨RX1, "makeJob", "(I)I"⟩
abbrev cX1_changeJob : ByteArray := prog_3_method_12_code
def yX1_changeJob : MethodName := ⟨RX1, "changeJob", "(ILFieldStore$Fields;II)V"⟩
abbrev cX1_takeAct : ByteArray := prog_3_method_13_code
def yX1_takeAct : MethodName := ⟨RX1, "takeAct", "()LFieldStore$Act;"⟩
abbrev cX1_refuse : ByteArray := prog_3_method_14_code
def yX1_refuse : MethodName := ⟨RX1, "refuse", "(LFieldStore$Act;I)V"⟩
def RX2 : String := "FieldStore$Fields"
def TX2 : u_T := fun k => match k with
  | 0 => ("FieldStore$Fields", "state", "I", false)
  | 1 => ("FieldStore$Fields", "note", "I", false)
  | 2 => ("FieldStore$Fields", "stateVersion", "I", false)
  | _ => ("FieldStore$Fields", "noteVersion", "I", false)
def tyX2 : Nat → FieldType := fun k => match k with
  | 0 => .int
  | 1 => .int
  | 2 => .int
  | _ => .int
abbrev wsX20 : List Cond := u_ws RX2 TX2 4
theorem nmX2 : ∀ a, a < 4 → ∀ b, b < 4 → a ≠ b → (TX2 a).2.1 ≠ (TX2 b).2.1 := by decide +kernel
theorem tyX2_ok : ∀ k, k < 4 → parseFieldDescriptor (TX2 k).2.2.1 = some (tyX2 k) := by decide +kernel
abbrev cX2_init : ByteArray := prog_4_method_1_code
def yX2_init : MethodName := ⟨RX2, "<init>", "()V"⟩
abbrev cX2_valueOf : ByteArray := prog_4_method_2_code
def yX2_valueOf : MethodName := ⟨RX2, "valueOf", "(I)I"⟩
abbrev cX2_versionOf : ByteArray := prog_4_method_3_code
def yX2_versionOf : MethodName := ⟨RX2, "versionOf", "(I)I"⟩
abbrev cX2_put : ByteArray := prog_4_method_4_code
def yX2_put : MethodName := ⟨RX2, "put", "(II)V"⟩
abbrev cX2_copyFrom : ByteArray := prog_4_method_5_code
def yX2_copyFrom : MethodName := ⟨RX2, "copyFrom", "(LFieldStore$Fields;)V"⟩
def RX3 : String := "FieldStore$Job"
def TX3 : u_T := fun k => match k with
  | 0 => ("FieldStore$Job", "site", "I", true)
  | 1 => ("FieldStore$Job", "crew", "I", false)
  | _ => ("FieldStore$Job", "fields", "LFieldStore$Fields;", true)
def tyX3 : Nat → FieldType := fun k => match k with
  | 0 => .int
  | 1 => .int
  | _ => .object "FieldStore$Fields"
abbrev wsX30 : List Cond := u_ws RX3 TX3 3
theorem nmX3 : ∀ a, a < 3 → ∀ b, b < 3 → a ≠ b → (TX3 a).2.1 ≠ (TX3 b).2.1 := by decide +kernel
theorem tyX3_ok : ∀ k, k < 3 → parseFieldDescriptor (TX3 k).2.2.1 = some (tyX3 k) := by decide +kernel
abbrev cX3_init : ByteArray := prog_5_method_1_code
def yX3_init : MethodName := ⟨RX3, "<init>", "(II)V"⟩
def RX4 : String := "FieldStore$Made"
def TX4 : u_T := fun k => match k with
  | 0 => ("FieldStore$Made", "number", "I", false)
  | _ => ("FieldStore$Made", "fields", "LFieldStore$Fields;", true)
def tyX4 : Nat → FieldType := fun k => match k with
  | 0 => .int
  | _ => .object "FieldStore$Fields"
abbrev wsX40 : List Cond := u_ws RX4 TX4 2
theorem nmX4 : ∀ a, a < 2 → ∀ b, b < 2 → a ≠ b → (TX4 a).2.1 ≠ (TX4 b).2.1 := by decide +kernel
theorem tyX4_ok : ∀ k, k < 2 → parseFieldDescriptor (TX4 k).2.2.1 = some (tyX4 k) := by decide +kernel
abbrev cX4_init : ByteArray := prog_6_method_1_code
def yX4_init : MethodName := ⟨RX4, "<init>", "()V"⟩
def RX5 : String := "FieldStore"
def TX5 : u_T := fun k => match k with
  | 0 => ("FieldStore", "central", "Ljava/util/ArrayList;", true)
  | 1 => ("FieldStore", "devices", "[LFieldStore$Device;", true)
  | _ => ("FieldStore", "actsDone", "I", false)
def tyX5 : Nat → FieldType := fun k => match k with
  | 0 => .object "java/util/ArrayList"
  | 1 => .array (.object "FieldStore$Device")
  | _ => .int
abbrev wsX50 : List Cond := u_ws RX5 TX5 3
theorem nmX5 : ∀ a, a < 3 → ∀ b, b < 3 → a ≠ b → (TX5 a).2.1 ≠ (TX5 b).2.1 := by decide +kernel
theorem tyX5_ok : ∀ k, k < 3 → parseFieldDescriptor (TX5 k).2.2.1 = some (tyX5 k) := by decide +kernel
abbrev cX5_init : ByteArray := prog_1_method_1_code
def yX5_init : MethodName := ⟨RX5, "<init>", "()V"⟩
abbrev cX5_add : ByteArray := prog_1_method_2_code
def yX5_add : MethodName := ⟨RX5, "add", "(II)I"⟩
abbrev cX5_give : ByteArray := prog_1_method_3_code
def yX5_give : MethodName := ⟨RX5, "give", "(II)I"⟩
abbrev cX5_set : ByteArray := prog_1_method_4_code
def yX5_set : MethodName := ⟨RX5, "set", "(III)I"⟩
abbrev cX5_jobs : ByteArray := prog_1_method_5_code
def yX5_jobs : MethodName := ⟨RX5, "jobs", "()I"⟩
abbrev cX5_crew : ByteArray := prog_1_method_6_code
def yX5_crew : MethodName := ⟨RX5, "crew", "(I)I"⟩
abbrev cX5_site : ByteArray := prog_1_method_7_code
def yX5_site : MethodName := ⟨RX5, "site", "(I)I"⟩
abbrev cX5_value : ByteArray := prog_1_method_8_code
def yX5_value : MethodName := ⟨RX5, "value", "(II)I"⟩
abbrev cX5_version : ByteArray := prog_1_method_9_code
def yX5_version : MethodName := ⟨RX5, "version", "(II)I"⟩
abbrev cX5_setRoom : ByteArray := prog_1_method_10_code
def yX5_setRoom : MethodName := ⟨RX5, "setRoom", "(II)I"⟩
abbrev cX5_fetch : ByteArray := prog_1_method_11_code
def yX5_fetch : MethodName := ⟨RX5, "fetch", "(I)I"⟩
abbrev cX5_held : ByteArray := prog_1_method_12_code
def yX5_held : MethodName := ⟨RX5, "held", "(I)I"⟩
abbrev cX5_holds : ByteArray := prog_1_method_13_code
def yX5_holds : MethodName := ⟨RX5, "holds", "(II)Z"⟩
abbrev cX5_heldValue : ByteArray := prog_1_method_14_code
def yX5_heldValue : MethodName := ⟨RX5, "heldValue", "(III)I"⟩
abbrev cX5_change : ByteArray := prog_1_method_15_code
def yX5_change : MethodName := ⟨RX5, "change", "(IIII)I"⟩
abbrev cX5_make : ByteArray := prog_1_method_16_code
def yX5_make : MethodName := ⟨RX5, "make", "(II)I"⟩
abbrev cX5_numberOf : ByteArray := prog_1_method_17_code
def yX5_numberOf : MethodName := ⟨RX5, "numberOf", "(II)I"⟩
abbrev cX5_send : ByteArray := prog_1_method_18_code
def yX5_send : MethodName := ⟨RX5, "send", "(II)I"⟩
abbrev cX5_waiting : ByteArray := prog_1_method_19_code
def yX5_waiting : MethodName := ⟨RX5, "waiting", "(I)I"⟩
abbrev cX5_pile : ByteArray := prog_1_method_20_code
def yX5_pile : MethodName := ⟨RX5, "pile", "(I)I"⟩
abbrev cX5_reason : ByteArray := prog_1_method_21_code
def yX5_reason : MethodName := ⟨RX5, "reason", "(II)I"⟩
abbrev cX5_refusedValue : ByteArray := prog_1_method_22_code
def yX5_refusedValue : MethodName := ⟨RX5, "refusedValue", "(II)I"⟩
abbrev cX5_done : ByteArray := prog_1_method_23_code
def yX5_done : MethodName := ⟨RX5, "done", "()I"⟩
abbrev cX5_copyJobs : ByteArray := prog_1_method_24_code
def yX5_copyJobs : MethodName := ⟨RX5, "copyJobs", "(ILFieldStore$Device;I)V"⟩
abbrev cX5_deliver : ByteArray := prog_1_method_25_code
def yX5_deliver : MethodName := ⟨RX5, "deliver", "(ILFieldStore$Device;LFieldStore$Act;)I"⟩
abbrev cX5_deliverMaking : ByteArray := prog_1_method_26_code
def yX5_deliverMaking : MethodName := ⟨RX5, "deliverMaking", "(ILFieldStore$Device;LFieldStore$Act;)I"⟩
abbrev cX5_deliverChange : ByteArray := prog_1_method_27_code
def yX5_deliverChange : MethodName := ⟨RX5, "deliverChange", "(ILFieldStore$Device;LFieldStore$Act;)I"⟩
abbrev cX5_isStep : ByteArray := prog_1_method_28_code
def yX5_isStep : MethodName := ⟨RX5, "isStep", "(II)Z"⟩
abbrev cX5_jobAt : ByteArray := prog_1_method_29_code
def yX5_jobAt : MethodName := ⟨RX5, "jobAt", "(I)LFieldStore$Job;"⟩
abbrev cX5_deviceAt : ByteArray := prog_1_method_30_code
def yX5_deviceAt : MethodName := ⟨RX5, "deviceAt", "(I)LFieldStore$Device;"⟩
abbrev cX5_refusedAt : ByteArray := prog_1_method_31_code
def yX5_refusedAt : MethodName := ⟨RX5, "refusedAt", "(II)LFieldStore$Act;"⟩
abbrev cX5_fieldsHeld : ByteArray := prog_1_method_32_code
def yX5_fieldsHeld : MethodName := ⟨RX5, "fieldsHeld", "(LFieldStore$Device;I)LFieldStore$Fields;"⟩
abbrev cX5_checkRange : ByteArray := prog_1_method_33_code
def yX5_checkRange : MethodName := ⟨RX5, "checkRange", "(III)V"⟩
abbrev cX5_checkField : ByteArray := prog_1_method_34_code
def yX5_checkField : MethodName := ⟨RX5, "checkField", "(I)V"⟩
abbrev cX5_checkValue : ByteArray := prog_1_method_35_code
def yX5_checkValue : MethodName := ⟨RX5, "checkValue", "(II)V"⟩
def RX6 : String := "FieldStoreModel"
def TX6 : u_T := fun k => match k with
  | _ => ("", "", "", false)
def tyX6 : Nat → FieldType := fun k => match k with
  | _ => .int
abbrev wsX60 : List Cond := u_ws RX6 TX6 0
theorem nmX6 : ∀ a, a < 0 → ∀ b, b < 0 → a ≠ b → (TX6 a).2.1 ≠ (TX6 b).2.1 := by decide +kernel
theorem tyX6_ok : ∀ k, k < 0 → parseFieldDescriptor (TX6 k).2.2.1 = some (tyX6 k) := by decide +kernel
def RJx145de : String := "java/io/Serializable"
def TJx145de : u_T := fun k => match k with
  | _ => ("", "", "", false)
def tyJx145de : Nat → FieldType := fun k => match k with
  | _ => .int
abbrev wsJx145de0 : List Cond := u_ws RJx145de TJx145de 0
theorem nmJx145de : ∀ a, a < 0 → ∀ b, b < 0 → a ≠ b → (TJx145de a).2.1 ≠ (TJx145de b).2.1 := by decide +kernel
theorem tyJx145de_ok : ∀ k, k < 0 → parseFieldDescriptor (TJx145de k).2.2.1 = some (tyJx145de k) := by decide +kernel
def RJx8e188 : String := "java/lang/Cloneable"
def TJx8e188 : u_T := fun k => match k with
  | _ => ("", "", "", false)
def tyJx8e188 : Nat → FieldType := fun k => match k with
  | _ => .int
abbrev wsJx8e1880 : List Cond := u_ws RJx8e188 TJx8e188 0
theorem nmJx8e188 : ∀ a, a < 0 → ∀ b, b < 0 → a ≠ b → (TJx8e188 a).2.1 ≠ (TJx8e188 b).2.1 := by decide +kernel
theorem tyJx8e188_ok : ∀ k, k < 0 → parseFieldDescriptor (TJx8e188 k).2.2.1 = some (tyJx8e188 k) := by decide +kernel
def RJxab1ab : String := "java/lang/Iterable"
def TJxab1ab : u_T := fun k => match k with
  | _ => ("", "", "", false)
def tyJxab1ab : Nat → FieldType := fun k => match k with
  | _ => .int
abbrev wsJxab1ab0 : List Cond := u_ws RJxab1ab TJxab1ab 0
theorem nmJxab1ab : ∀ a, a < 0 → ∀ b, b < 0 → a ≠ b → (TJxab1ab a).2.1 ≠ (TJxab1ab b).2.1 := by decide +kernel
theorem tyJxab1ab_ok : ∀ k, k < 0 → parseFieldDescriptor (TJxab1ab k).2.2.1 = some (tyJxab1ab k) := by decide +kernel
def RJ9 : String := "java/lang/Math"
def TJ9 : u_T := fun k => match k with
  | _ => ("", "", "", false)
def tyJ9 : Nat → FieldType := fun k => match k with
  | _ => .int
abbrev wsJ90 : List Cond := u_ws RJ9 TJ9 0
theorem nmJ9 : ∀ a, a < 0 → ∀ b, b < 0 → a ≠ b → (TJ9 a).2.1 ≠ (TJ9 b).2.1 := by decide +kernel
theorem tyJ9_ok : ∀ k, k < 0 → parseFieldDescriptor (TJ9 k).2.2.1 = some (tyJ9 k) := by decide +kernel
abbrev cJ9_max_7cf53 : ByteArray := prog_16_method_65_code
def yJ9_max_7cf53 : MethodName := ⟨RJ9, "max", "(II)I"⟩
abbrev cJ9_min_7cf53 : ByteArray := prog_16_method_69_code
def yJ9_min_7cf53 : MethodName := ⟨RJ9, "min", "(II)I"⟩
def RJ0 : String := "java/lang/String"
def TJ0 : u_T := fun k => match k with
  | _ => ("", "", "", false)
def tyJ0 : Nat → FieldType := fun k => match k with
  | _ => .int
abbrev wsJ00 : List Cond := u_ws RJ0 TJ0 0
theorem nmJ0 : ∀ a, a < 0 → ∀ b, b < 0 → a ≠ b → (TJ0 a).2.1 ≠ (TJ0 b).2.1 := by decide +kernel
theorem tyJ0_ok : ∀ k, k < 0 → parseFieldDescriptor (TJ0 k).2.2.1 = some (tyJ0 k) := by decide +kernel
def RJ10 : String := "java/lang/System"
def TJ10 : u_T := fun k => match k with
  | _ => ("", "", "", false)
def tyJ10 : Nat → FieldType := fun k => match k with
  | _ => .int
abbrev wsJ100 : List Cond := u_ws RJ10 TJ10 0
theorem nmJ10 : ∀ a, a < 0 → ∀ b, b < 0 → a ≠ b → (TJ10 a).2.1 ≠ (TJ10 b).2.1 := by decide +kernel
theorem tyJ10_ok : ∀ k, k < 0 → parseFieldDescriptor (TJ10 k).2.2.1 = some (tyJ10 k) := by decide +kernel
def RJxa1e45 : String := "java/util/AbstractCollection"
def TJxa1e45 : u_T := fun k => match k with
  | _ => ("", "", "", false)
def tyJxa1e45 : Nat → FieldType := fun k => match k with
  | _ => .int
abbrev wsJxa1e450 : List Cond := u_ws RJxa1e45 TJxa1e45 0
theorem nmJxa1e45 : ∀ a, a < 0 → ∀ b, b < 0 → a ≠ b → (TJxa1e45 a).2.1 ≠ (TJxa1e45 b).2.1 := by decide +kernel
theorem tyJxa1e45_ok : ∀ k, k < 0 → parseFieldDescriptor (TJxa1e45 k).2.2.1 = some (tyJxa1e45 k) := by decide +kernel
abbrev cJxa1e45_init_da8c8 : ByteArray := prog_21_method_1_code
def yJxa1e45_init_da8c8 : MethodName := ⟨RJxa1e45, "<init>", "()V"⟩
def RJxc12de : String := "java/util/AbstractList"
def TJxc12de : u_T := fun k => match k with
  | _ => ("", "", "", false)
def tyJxc12de : Nat → FieldType := fun k => match k with
  | _ => .int
abbrev wsJxc12de0 : List Cond := u_ws RJxc12de TJxc12de 0
theorem nmJxc12de : ∀ a, a < 0 → ∀ b, b < 0 → a ≠ b → (TJxc12de a).2.1 ≠ (TJxc12de b).2.1 := by decide +kernel
theorem tyJxc12de_ok : ∀ k, k < 0 → parseFieldDescriptor (TJxc12de k).2.2.1 = some (tyJxc12de k) := by decide +kernel
abbrev cJxc12de_init_da8c8 : ByteArray := prog_22_method_1_code
def yJxc12de_init_da8c8 : MethodName := ⟨RJxc12de, "<init>", "()V"⟩
def RJx4a65c : String := "java/util/ArrayList"
def TJx4a65c : u_T := fun k => match k with
  | 0 => ("java/util/AbstractList", "modCount", "I", false)
  | 1 => ("java/util/ArrayList", "elementData", "[Ljava/lang/Object;", false)
  | _ => ("java/util/ArrayList", "size", "I", false)
def tyJx4a65c : Nat → FieldType := fun k => match k with
  | 0 => .int
  | 1 => .array (.object "java/lang/Object")
  | _ => .int
abbrev wsJx4a65c0 : List Cond := u_ws RJx4a65c TJx4a65c 3
theorem nmJx4a65c : ∀ a, a < 3 → ∀ b, b < 3 → a ≠ b → (TJx4a65c a).2.1 ≠ (TJx4a65c b).2.1 := by decide +kernel
theorem tyJx4a65c_ok : ∀ k, k < 3 → parseFieldDescriptor (TJx4a65c k).2.2.1 = some (tyJx4a65c k) := by decide +kernel
abbrev cJx4a65c_init_da8c8 : ByteArray := prog_23_method_2_code
def yJx4a65c_init_da8c8 : MethodName := ⟨RJx4a65c, "<init>", "()V"⟩
abbrev cJx4a65c_grow_92f84 : ByteArray := prog_23_method_6_code
def yJx4a65c_grow_92f84 : MethodName := ⟨RJx4a65c, "grow", "(I)[Ljava/lang/Object;"⟩
abbrev cJx4a65c_grow_d5877 : ByteArray := prog_23_method_7_code
def yJx4a65c_grow_d5877 : MethodName := ⟨RJx4a65c, "grow", "()[Ljava/lang/Object;"⟩
abbrev cJx4a65c_size_8abf5 : ByteArray := prog_23_method_8_code
def yJx4a65c_size_8abf5 : MethodName := ⟨RJx4a65c, "size", "()I"⟩
abbrev cJx4a65c_elementData_915e3 : ByteArray := prog_23_method_18_code
def yJx4a65c_elementData_915e3 : MethodName := ⟨RJx4a65c, "elementData", "(I)Ljava/lang/Object;"⟩
abbrev cJx4a65c_get_915e3 : ByteArray := prog_23_method_20_code
def yJx4a65c_get_915e3 : MethodName := ⟨RJx4a65c, "get", "(I)Ljava/lang/Object;"⟩
abbrev cJx4a65c_add_72be8 : ByteArray := prog_23_method_24_code
def yJx4a65c_add_72be8 : MethodName := ⟨RJx4a65c, "add", "(Ljava/lang/Object;[Ljava/lang/Object;I)V"⟩
abbrev cJx4a65c_add_9ea2d : ByteArray := prog_23_method_25_code
def yJx4a65c_add_9ea2d : MethodName := ⟨RJx4a65c, "add", "(Ljava/lang/Object;)Z"⟩
def RJ7 : String := "java/util/Arrays"
def TJ7 : u_T := fun k => match k with
  | _ => ("", "", "", false)
def tyJ7 : Nat → FieldType := fun k => match k with
  | _ => .int
abbrev wsJ70 : List Cond := u_ws RJ7 TJ7 0
theorem nmJ7 : ∀ a, a < 0 → ∀ b, b < 0 → a ≠ b → (TJ7 a).2.1 ≠ (TJ7 b).2.1 := by decide +kernel
theorem tyJ7_ok : ∀ k, k < 0 → parseFieldDescriptor (TJ7 k).2.2.1 = some (tyJ7 k) := by decide +kernel
abbrev cJ7_copyOf_1904c : ByteArray := prog_24_method_119_code
def yJ7_copyOf_1904c : MethodName := ⟨RJ7, "copyOf", "([Ljava/lang/Object;I)[Ljava/lang/Object;"⟩
abbrev cJ7_copyOf_6403c : ByteArray := prog_24_method_120_code
def yJ7_copyOf_6403c : MethodName := ⟨RJ7, "copyOf", "([Ljava/lang/Object;ILjava/lang/Class;)[Ljava/lang/Object;"⟩
def RJx5ef63 : String := "java/util/Collection"
def TJx5ef63 : u_T := fun k => match k with
  | _ => ("", "", "", false)
def tyJx5ef63 : Nat → FieldType := fun k => match k with
  | _ => .int
abbrev wsJx5ef630 : List Cond := u_ws RJx5ef63 TJx5ef63 0
theorem nmJx5ef63 : ∀ a, a < 0 → ∀ b, b < 0 → a ≠ b → (TJx5ef63 a).2.1 ≠ (TJx5ef63 b).2.1 := by decide +kernel
theorem tyJx5ef63_ok : ∀ k, k < 0 → parseFieldDescriptor (TJx5ef63 k).2.2.1 = some (tyJx5ef63 k) := by decide +kernel
def RJxbd725 : String := "java/util/List"
def TJxbd725 : u_T := fun k => match k with
  | _ => ("", "", "", false)
def tyJxbd725 : Nat → FieldType := fun k => match k with
  | _ => .int
abbrev wsJxbd7250 : List Cond := u_ws RJxbd725 TJxbd725 0
theorem nmJxbd725 : ∀ a, a < 0 → ∀ b, b < 0 → a ≠ b → (TJxbd725 a).2.1 ≠ (TJxbd725 b).2.1 := by decide +kernel
theorem tyJxbd725_ok : ∀ k, k < 0 → parseFieldDescriptor (TJxbd725 k).2.2.1 = some (tyJxbd725 k) := by decide +kernel
def RJ15 : String := "java/util/Objects"
def TJ15 : u_T := fun k => match k with
  | _ => ("", "", "", false)
def tyJ15 : Nat → FieldType := fun k => match k with
  | _ => .int
abbrev wsJ150 : List Cond := u_ws RJ15 TJ15 0
theorem nmJ15 : ∀ a, a < 0 → ∀ b, b < 0 → a ≠ b → (TJ15 a).2.1 ≠ (TJ15 b).2.1 := by decide +kernel
theorem tyJ15_ok : ∀ k, k < 0 → parseFieldDescriptor (TJ15 k).2.2.1 = some (tyJ15 k) := by decide +kernel
abbrev cJ15_checkIndex_7cf53 : ByteArray := prog_27_method_17_code
def yJ15_checkIndex_7cf53 : MethodName := ⟨RJ15, "checkIndex", "(II)I"⟩
def RJxf0a74 : String := "java/util/RandomAccess"
def TJxf0a74 : u_T := fun k => match k with
  | _ => ("", "", "", false)
def tyJxf0a74 : Nat → FieldType := fun k => match k with
  | _ => .int
abbrev wsJxf0a740 : List Cond := u_ws RJxf0a74 TJxf0a74 0
theorem nmJxf0a74 : ∀ a, a < 0 → ∀ b, b < 0 → a ≠ b → (TJxf0a74 a).2.1 ≠ (TJxf0a74 b).2.1 := by decide +kernel
theorem tyJxf0a74_ok : ∀ k, k < 0 → parseFieldDescriptor (TJxf0a74 k).2.2.1 = some (tyJxf0a74 k) := by decide +kernel
def RJxa66e6 : String := "java/util/SequencedCollection"
def TJxa66e6 : u_T := fun k => match k with
  | _ => ("", "", "", false)
def tyJxa66e6 : Nat → FieldType := fun k => match k with
  | _ => .int
abbrev wsJxa66e60 : List Cond := u_ws RJxa66e6 TJxa66e6 0
theorem nmJxa66e6 : ∀ a, a < 0 → ∀ b, b < 0 → a ≠ b → (TJxa66e6 a).2.1 ≠ (TJxa66e6 b).2.1 := by decide +kernel
theorem tyJxa66e6_ok : ∀ k, k < 0 → parseFieldDescriptor (TJxa66e6 k).2.2.1 = some (tyJxa66e6 k) := by decide +kernel
def RJ8 : String := "jdk/internal/util/ArraysSupport"
def TJ8 : u_T := fun k => match k with
  | _ => ("", "", "", false)
def tyJ8 : Nat → FieldType := fun k => match k with
  | _ => .int
abbrev wsJ80 : List Cond := u_ws RJ8 TJ8 0
theorem nmJ8 : ∀ a, a < 0 → ∀ b, b < 0 → a ≠ b → (TJ8 a).2.1 ≠ (TJ8 b).2.1 := by decide +kernel
theorem tyJ8_ok : ∀ k, k < 0 → parseFieldDescriptor (TJ8 k).2.2.1 = some (tyJ8 k) := by decide +kernel
abbrev cJ8_newLength_cabcc : ByteArray := prog_30_method_27_code
def yJ8_newLength_cabcc : MethodName := ⟨RJ8, "newLength", "(III)I"⟩
abbrev cJ8_hugeLength_7cf53 : ByteArray := prog_30_method_28_code
def yJ8_hugeLength_7cf53 : MethodName := ⟨RJ8, "hugeLength", "(II)I"⟩
def RJ3 : String := "jdk/internal/util/Preconditions"
def TJ3 : u_T := fun k => match k with
  | _ => ("", "", "", false)
def tyJ3 : Nat → FieldType := fun k => match k with
  | _ => .int
abbrev wsJ30 : List Cond := u_ws RJ3 TJ3 0
theorem nmJ3 : ∀ a, a < 0 → ∀ b, b < 0 → a ≠ b → (TJ3 a).2.1 ≠ (TJ3 b).2.1 := by decide +kernel
theorem tyJ3_ok : ∀ k, k < 0 → parseFieldDescriptor (TJ3 k).2.2.1 = some (tyJ3 k) := by decide +kernel
abbrev cJ3_checkIndex_8e157 : ByteArray := prog_31_method_11_code
def yJ3_checkIndex_8e157 : MethodName := ⟨RJ3, "checkIndex", "(IILjava/util/function/BiFunction;)I"⟩
def RL : String := "FieldStoreLaw"
abbrev cL_adds : ByteArray := method_2_code
def yL_adds : MethodName := ⟨RL, "adds", "(LFieldStore;II)I"⟩
abbrev cL_gives : ByteArray := method_3_code
def yL_gives : MethodName := ⟨RL, "gives", "(LFieldStore;II)I"⟩
abbrev cL_sets : ByteArray := method_4_code
def yL_sets : MethodName := ⟨RL, "sets", "(LFieldStore;III)I"⟩
abbrev cL_crew : ByteArray := method_5_code
def yL_crew : MethodName := ⟨RL, "crew", "(LFieldStore;I)I"⟩
abbrev cL_site : ByteArray := method_6_code
def yL_site : MethodName := ⟨RL, "site", "(LFieldStore;I)I"⟩
abbrev cL_value : ByteArray := method_7_code
def yL_value : MethodName := ⟨RL, "value", "(LFieldStore;II)I"⟩
abbrev cL_version : ByteArray := method_8_code
def yL_version : MethodName := ⟨RL, "version", "(LFieldStore;II)I"⟩
abbrev cL_rooms : ByteArray := method_9_code
def yL_rooms : MethodName := ⟨RL, "rooms", "(LFieldStore;II)I"⟩
abbrev cL_fetches : ByteArray := method_10_code
def yL_fetches : MethodName := ⟨RL, "fetches", "(LFieldStore;I)I"⟩
abbrev cL_held : ByteArray := method_11_code
def yL_held : MethodName := ⟨RL, "held", "(LFieldStore;I)I"⟩
abbrev cL_holds : ByteArray := method_12_code
def yL_holds : MethodName := ⟨RL, "holds", "(LFieldStore;II)I"⟩
abbrev cL_heldValue : ByteArray := method_13_code
def yL_heldValue : MethodName := ⟨RL, "heldValue", "(LFieldStore;III)I"⟩
abbrev cL_changes : ByteArray := method_14_code
def yL_changes : MethodName := ⟨RL, "changes", "(LFieldStore;IIII)I"⟩
abbrev cL_makes : ByteArray := method_15_code
def yL_makes : MethodName := ⟨RL, "makes", "(LFieldStore;II)I"⟩
abbrev cL_number : ByteArray := method_16_code
def yL_number : MethodName := ⟨RL, "number", "(LFieldStore;II)I"⟩
abbrev cL_sends : ByteArray := method_17_code
def yL_sends : MethodName := ⟨RL, "sends", "(LFieldStore;II)I"⟩
abbrev cL_waiting : ByteArray := method_18_code
def yL_waiting : MethodName := ⟨RL, "waiting", "(LFieldStore;I)I"⟩
abbrev cL_pile : ByteArray := method_19_code
def yL_pile : MethodName := ⟨RL, "pile", "(LFieldStore;I)I"⟩
abbrev cL_reason : ByteArray := method_20_code
def yL_reason : MethodName := ⟨RL, "reason", "(LFieldStore;II)I"⟩
abbrev cL_refused : ByteArray := method_21_code
def yL_refused : MethodName := ⟨RL, "refused", "(LFieldStore;II)I"⟩
abbrev cL_drawn : ByteArray := method_22_code
def yL_drawn : MethodName := ⟨RL, "drawn", "([II)I"⟩
abbrev cL_refuses : ByteArray := method_23_code
def yL_refuses : MethodName := ⟨RL, "refuses", "(LFieldStore;[II)Z"⟩
abbrev cL_act : ByteArray := method_24_code
def yL_act : MethodName := ⟨RL, "act", "(LFieldStore;[IIZ)I"⟩
abbrev cL_alike : ByteArray := method_25_code
def yL_alike : MethodName := ⟨RL, "alike", "(LFieldStore;LFieldStore;[I)Z"⟩
abbrev cL_holdsAll : ByteArray := method_26_code
def yL_holdsAll : MethodName := ⟨RL, "holdsAll", "(LFieldStore;[II)Z"⟩
abbrev cL_fresh : ByteArray := method_27_code
def yL_fresh : MethodName := ⟨RL, "fresh", "(LFieldStore;[II)Z"⟩
abbrev cL_law : ByteArray := code
def yL_law : MethodName := ⟨RL, "law", "([I)Z"⟩
def wsL_law0_r1 : List Cond := [Cond.classLink RL 8 RX5, Cond.instantiable RX5 3, Cond.initialized RX5, Cond.arrayClass .int, Cond.methodLink RL 148 yX5_init, Cond.instanceMethod yX5_init, Cond.code yX5_init cX5_init 2 none, Cond.methodLink RX5 1 objectInit, Cond.instanceMethod objectInit, Cond.code objectInit ⟨#[0xb1]⟩ 1 none, Cond.classLink RX5 7 RJx4a65c, Cond.instantiable RJx4a65c 3, Cond.initialized RJx4a65c, Cond.fieldLink RX5 10 "FieldStore" "central" "Ljava/util/ArrayList;", Cond.classLink RX5 16 RX1, Cond.fieldLink RX5 18 "FieldStore" "devices" "[LFieldStore$Device;", Cond.fieldLink RX5 22 "FieldStore" "actsDone" "I", Cond.instantiable RX1 9, Cond.initialized RX1, Cond.methodLink RX5 9 yJx4a65c_init_da8c8, Cond.instanceMethod yJx4a65c_init_da8c8, Cond.code yJx4a65c_init_da8c8 cJx4a65c_init_da8c8 1 none, Cond.fieldLink RJx4a65c 39 "java/util/ArrayList" "DEFAULTCAPACITY_EMPTY_ELEMENTDATA" "[Ljava/lang/Object;", Cond.fieldLink RJx4a65c 9 "java/util/ArrayList" "elementData" "[Ljava/lang/Object;"]
def wsL_law0_r2 : List Cond := [Cond.methodLink RJx4a65c 1 yJxc12de_init_da8c8, Cond.instanceMethod yJxc12de_init_da8c8, Cond.initialized RJxc12de, Cond.code yJxc12de_init_da8c8 cJxc12de_init_da8c8 1 none, Cond.fieldLink RJxc12de 7 "java/util/AbstractList" "modCount" "I", Cond.methodLink RJxc12de 1 yJxa1e45_init_da8c8, Cond.instanceMethod yJxa1e45_init_da8c8, Cond.initialized RJxa1e45, Cond.code yJxa1e45_init_da8c8 cJxa1e45_init_da8c8 1 none, Cond.methodLink RJxa1e45 1 objectInit, Cond.instanceMethod yX1_init, Cond.code yX1_init cX1_init 1 none, Cond.methodLink RX1 3 objectInit, Cond.fieldLink RX1 9 "FieldStore$Device" "room" "I", Cond.classLink RX1 15 RX2, Cond.fieldLink RX1 17 "FieldStore$Device" "copies" "[LFieldStore$Fields;", Cond.arrayClass .boolean, Cond.fieldLink RX1 21 "FieldStore$Device" "copied" "[Z", Cond.fieldLink RX1 25 "FieldStore$Device" "copyCount" "I", Cond.classLink RX1 28 RJx4a65c, Cond.fieldLink RX1 31 "FieldStore$Device" "madeJobs" "Ljava/util/ArrayList;", Cond.fieldLink RX1 35 "FieldStore$Device" "unnumbered" "I", Cond.fieldLink RX1 38 "FieldStore$Device" "acts" "Ljava/util/ArrayList;", Cond.fieldLink RX1 41 "FieldStore$Device" "nextAct" "I"]
def wsL_law0_r3 : List Cond := [Cond.fieldLink RX1 44 "FieldStore$Device" "refused" "Ljava/util/ArrayList;", Cond.methodLink RX1 30 yJx4a65c_init_da8c8, Cond.methodLink RL 149 yL_drawn, Cond.static yL_drawn, Cond.initialized RL, Cond.code yL_drawn cL_drawn 2 (some .int), Cond.constant RL 83 (15524771), Cond.constant RL 84 (2147483647), Cond.methodLink RL 153 yL_act, Cond.static yL_act, Cond.code yL_act cL_act 13 (some .int), Cond.methodLink RL 85 yX5_jobs, Cond.instanceMethod yX5_jobs, Cond.selects RX5 yX5_jobs yX5_jobs, Cond.code yX5_jobs cX5_jobs 1 (some .int), Cond.methodLink RX5 31 yJx4a65c_size_8abf5, Cond.instanceMethod yJx4a65c_size_8abf5, Cond.selects RJx4a65c yJx4a65c_size_8abf5 yJx4a65c_size_8abf5, Cond.code yJx4a65c_size_8abf5 cJx4a65c_size_8abf5 1 (some .int), Cond.fieldLink RJx4a65c 48 "java/util/ArrayList" "size" "I", Cond.methodLink RL 89 yL_adds, Cond.static yL_adds, Cond.codeWith yL_adds cL_adds 4 (some .int) [(0, 6, 7, 13), (0, 6, 11, 16)], Cond.classLink RL 13 "java/lang/IllegalArgumentException"]
def wsL_law0_r4 : List Cond := [Cond.classLink RL 16 "java/lang/IllegalStateException", Cond.constant RL 15 (-2000000002), Cond.constant RL 18 (-2000000003), Cond.methodLink RL 7 yX5_add, Cond.instanceMethod yX5_add, Cond.selects RX5 yX5_add yX5_add, Cond.code yX5_add cX5_add 3 (some .int), Cond.classLink RX5 35 "java/lang/IllegalStateException", Cond.initialized "java/lang/IllegalStateException", Cond.classLink RX5 42 RX3, Cond.instantiable RX3 3, Cond.initialized RX3, Cond.methodLink RX5 27 yX5_checkRange, Cond.static yX5_checkRange, Cond.code yX5_checkRange cX5_checkRange 3 none, Cond.classLink RX5 127 "java/lang/IllegalArgumentException", Cond.initialized "java/lang/IllegalArgumentException", Cond.methodLink RX5 44 yX3_init, Cond.instanceMethod yX3_init, Cond.code yX3_init cX3_init 3 none, Cond.methodLink RX3 1 objectInit, Cond.classLink RX3 7 RX2, Cond.instantiable RX2 4, Cond.initialized RX2]
def wsL_law0_r5 : List Cond := [Cond.fieldLink RX3 10 "FieldStore$Job" "fields" "LFieldStore$Fields;", Cond.fieldLink RX3 16 "FieldStore$Job" "crew" "I", Cond.fieldLink RX3 20 "FieldStore$Job" "site" "I", Cond.instanceMethod yX2_init, Cond.code yX2_init cX2_init 1 none, Cond.methodLink RX2 3 objectInit, Cond.fieldLink RX2 9 "FieldStore$Fields" "state" "I", Cond.fieldLink RX2 15 "FieldStore$Fields" "note" "I", Cond.fieldLink RX2 18 "FieldStore$Fields" "stateVersion" "I", Cond.fieldLink RX2 21 "FieldStore$Fields" "noteVersion" "I", Cond.methodLink RX5 47 yJx4a65c_add_9ea2d, Cond.instanceMethod yJx4a65c_add_9ea2d, Cond.selects RJx4a65c yJx4a65c_add_9ea2d yJx4a65c_add_9ea2d, Cond.code yJx4a65c_add_9ea2d cJx4a65c_add_9ea2d 2 (some .boolean), Cond.fieldLink RJx4a65c 63 "java/util/ArrayList" "modCount" "I", Cond.sameField "java/util/ArrayList" "java/util/AbstractList" "modCount" "I", Cond.methodLink RJx4a65c 131 yJx4a65c_add_72be8, Cond.instanceMethod yJx4a65c_add_72be8, Cond.selects RJx4a65c yJx4a65c_add_72be8 yJx4a65c_add_72be8, Cond.code yJx4a65c_add_72be8 cJx4a65c_add_72be8 4 none, Cond.methodLink RJx4a65c 129 yJx4a65c_grow_d5877, Cond.instanceMethod yJx4a65c_grow_d5877, Cond.selects RJx4a65c yJx4a65c_grow_d5877 yJx4a65c_grow_d5877, Cond.code yJx4a65c_grow_d5877 cJx4a65c_grow_d5877 1 (some (.array (.object "java/lang/Object")))]
def wsL_law0_r6 : List Cond := [Cond.methodLink RJx4a65c 69 yJx4a65c_grow_92f84, Cond.instanceMethod yJx4a65c_grow_92f84, Cond.selects RJx4a65c yJx4a65c_grow_92f84 yJx4a65c_grow_92f84, Cond.code yJx4a65c_grow_92f84 cJx4a65c_grow_92f84 4 (some (.array (.object "java/lang/Object"))), Cond.methodLink RJx4a65c 79 Lib.Math.max.name, Cond.static Lib.Math.max.name, Cond.initialized "java/lang/Math", Cond.code Lib.Math.max.name Lib.Math.max.code 2 (some .int), Cond.classLink RJx4a65c 7 "java/lang/Object", Cond.methodLink RJx4a65c 73 yJ8_newLength_cabcc, Cond.static yJ8_newLength_cabcc, Cond.initialized RJ8, Cond.code yJ8_newLength_cabcc cJ8_newLength_cabcc 4 (some .int), Cond.methodLink RJ8 194 Lib.Math.max.name, Cond.constant RJ8 200 (2147483639), Cond.methodLink RJ8 201 yJ8_hugeLength_7cf53, Cond.static yJ8_hugeLength_7cf53, Cond.code yJ8_hugeLength_7cf53 cJ8_hugeLength_7cf53 3 (some .int), Cond.methodLink RJx4a65c 66 yJ7_copyOf_1904c, Cond.static yJ7_copyOf_1904c, Cond.initialized RJ7, Cond.code yJ7_copyOf_1904c cJ7_copyOf_1904c 2 (some (.array (.object "java/lang/Object"))), Cond.methodLink RJ7 86 ⟨"java/lang/Object", "getClass", "()Ljava/lang/Class;"⟩, Cond.selects "[Ljava/lang/Object;" ⟨"java/lang/Object", "getClass", "()Ljava/lang/Class;"⟩ ⟨"java/lang/Object", "getClass", "()Ljava/lang/Class;"⟩]
def wsL_law0_r7 : List Cond := [Cond.instanceMethod ⟨"java/lang/Object", "getClass", "()Ljava/lang/Class;"⟩, Cond.native ⟨"java/lang/Object", "getClass", "()Ljava/lang/Class;"⟩, Cond.methodLink RJ7 300 yJ7_copyOf_6403c, Cond.static yJ7_copyOf_6403c, Cond.code yJ7_copyOf_6403c cJ7_copyOf_6403c 4 (some (.array (.object "java/lang/Object"))), Cond.classLink RJ7 110 "[Ljava/lang/Object;", Cond.classLink RJ7 2 "java/lang/Object", Cond.methodLink RJ7 304 Lib.Math.min.name, Cond.static Lib.Math.min.name, Cond.code Lib.Math.min.name Lib.Math.min.code 2 (some .int), Cond.methodLink RJ7 150 arraycopyName, Cond.native arraycopyName, Cond.static arraycopyName, Cond.initialized "java/lang/System", Cond.methodLink RL 95 yL_gives, Cond.static yL_gives, Cond.codeWith yL_gives cL_gives 4 (some .int) [(0, 6, 7, 22), (0, 6, 11, 13)], Cond.classLink RL 22 "java/lang/IndexOutOfBoundsException", Cond.constant RL 24 (-2000000001), Cond.methodLink RL 19 yX5_give, Cond.instanceMethod yX5_give, Cond.selects RX5 yX5_give yX5_give, Cond.code yX5_give cX5_give 5 (some .int), Cond.fieldLink RX5 55 "FieldStore$Job" "crew" "I"]
def wsL_law0_r8 : List Cond := [Cond.methodLink RX5 51 yX5_jobAt, Cond.instanceMethod yX5_jobAt, Cond.selects RX5 yX5_jobAt yX5_jobAt, Cond.code yX5_jobAt cX5_jobAt 2 (some (.object "FieldStore$Job")), Cond.classLink RX5 204 "java/lang/IndexOutOfBoundsException", Cond.initialized "java/lang/IndexOutOfBoundsException", Cond.classLink RX5 42 "FieldStore$Job", Cond.methodLink RX5 164 yJx4a65c_get_915e3, Cond.instanceMethod yJx4a65c_get_915e3, Cond.selects RJx4a65c yJx4a65c_get_915e3 yJx4a65c_get_915e3, Cond.code yJx4a65c_get_915e3 cJx4a65c_get_915e3 2 (some (.object "java/lang/Object")), Cond.methodLink RJx4a65c 118 yJ15_checkIndex_7cf53, Cond.static yJ15_checkIndex_7cf53, Cond.initialized RJ15, Cond.code yJ15_checkIndex_7cf53 cJ15_checkIndex_7cf53 2 (some .int), Cond.methodLink RJ15 105 yJ3_checkIndex_8e157, Cond.static yJ3_checkIndex_8e157, Cond.initialized RJ3, Cond.code yJ3_checkIndex_8e157 cJ3_checkIndex_8e157 3 (some .int), Cond.methodLink RJx4a65c 123 yJx4a65c_elementData_915e3, Cond.instanceMethod yJx4a65c_elementData_915e3, Cond.selects RJx4a65c yJx4a65c_elementData_915e3 yJx4a65c_elementData_915e3, Cond.code yJx4a65c_elementData_915e3 cJx4a65c_elementData_915e3 2 (some (.object "java/lang/Object")), Cond.methodLink RL 98 yL_sets]
def wsL_law0_r9 : List Cond := [Cond.static yL_sets, Cond.codeWith yL_sets cL_sets 5 (some .int) [(0, 7, 8, 22), (0, 7, 13, 13)], Cond.methodLink RL 25 yX5_set, Cond.instanceMethod yX5_set, Cond.selects RX5 yX5_set yX5_set, Cond.code yX5_set cX5_set 5 (some .int), Cond.fieldLink RX5 58 "FieldStore$Job" "fields" "LFieldStore$Fields;", Cond.methodLink RX5 62 yX5_checkValue, Cond.static yX5_checkValue, Cond.code yX5_checkValue cX5_checkValue 2 none, Cond.methodLink RX5 77 yX5_checkField, Cond.static yX5_checkField, Cond.code yX5_checkField cX5_checkField 1 none, Cond.methodLink RX5 65 yX2_put, Cond.instanceMethod yX2_put, Cond.selects RX2 yX2_put yX2_put, Cond.code yX2_put cX2_put 3 none, Cond.methodLink RX5 70 yX2_versionOf, Cond.instanceMethod yX2_versionOf, Cond.selects RX2 yX2_versionOf yX2_versionOf, Cond.code yX2_versionOf cX2_versionOf 2 (some .int), Cond.methodLink RL 111 yL_rooms, Cond.static yL_rooms, Cond.codeWith yL_rooms cL_rooms 4 (some .int) [(0, 6, 7, 22), (0, 6, 11, 13)]]
def wsL_law0_r10 : List Cond := [Cond.methodLink RL 42 yX5_setRoom, Cond.instanceMethod yX5_setRoom, Cond.selects RX5 yX5_setRoom yX5_setRoom, Cond.code yX5_setRoom cX5_setRoom 5 (some .int), Cond.fieldLink RX5 88 "FieldStore$Device" "room" "I", Cond.methodLink RX5 84 yX5_deviceAt, Cond.instanceMethod yX5_deviceAt, Cond.selects RX5 yX5_deviceAt yX5_deviceAt, Cond.code yX5_deviceAt cX5_deviceAt 2 (some (.object "FieldStore$Device")), Cond.methodLink RL 114 yL_fetches, Cond.static yL_fetches, Cond.codeWith yL_fetches cL_fetches 3 (some .int) [(0, 5, 6, 22)], Cond.methodLink RL 45 yX5_fetch, Cond.instanceMethod yX5_fetch, Cond.selects RX5 yX5_fetch yX5_fetch, Cond.code yX5_fetch cX5_fetch 3 (some .int), Cond.methodLink RX5 91 yX1_dropCopies, Cond.instanceMethod yX1_dropCopies, Cond.selects RX1 yX1_dropCopies yX1_dropCopies, Cond.code yX1_dropCopies cX1_dropCopies 2 none, Cond.methodLink RX5 94 yX5_copyJobs, Cond.instanceMethod yX5_copyJobs, Cond.selects RX5 yX5_copyJobs yX5_copyJobs, Cond.code yX5_copyJobs cX5_copyJobs 6 none]
def wsL_law0_r11 : List Cond := [Cond.fieldLink RX5 168 "FieldStore$Device" "copyCount" "I", Cond.fieldLink RX5 171 "FieldStore$Fields" "state" "I", Cond.methodLink RX5 174 yX1_hold, Cond.instanceMethod yX1_hold, Cond.selects RX1 yX1_hold yX1_hold, Cond.code yX1_hold cX1_hold 4 none, Cond.methodLink RX1 69 yX2_copyFrom, Cond.instanceMethod yX2_copyFrom, Cond.selects RX2 yX2_copyFrom yX2_copyFrom, Cond.code yX2_copyFrom cX2_copyFrom 2 none, Cond.methodLink RX5 98 yX1_heldCount, Cond.instanceMethod yX1_heldCount, Cond.selects RX1 yX1_heldCount yX1_heldCount, Cond.code yX1_heldCount cX1_heldCount 1 (some .int), Cond.methodLink RL 123 yL_changes, Cond.static yL_changes, Cond.codeWith yL_changes cL_changes 6 (some .int) [(0, 9, 10, 22), (0, 9, 15, 13), (0, 9, 20, 16)], Cond.methodLink RL 58 yX5_change, Cond.instanceMethod yX5_change, Cond.selects RX5 yX5_change yX5_change, Cond.code yX5_change cX5_change 7 (some .int), Cond.methodLink RX5 105 yX5_fieldsHeld, Cond.static yX5_fieldsHeld, Cond.code yX5_fieldsHeld cX5_fieldsHeld 3 (some (.object "FieldStore$Fields"))]
def wsL_law0_r12 : List Cond := [Cond.methodLink RX5 101 yX1_heldFields, Cond.instanceMethod yX1_heldFields, Cond.selects RX1 yX1_heldFields yX1_heldFields, Cond.code yX1_heldFields cX1_heldFields 4 (some (.object "FieldStore$Fields")), Cond.fieldLink RX1 61 "FieldStore$Made" "number" "I", Cond.fieldLink RX1 64 "FieldStore$Made" "fields" "LFieldStore$Fields;", Cond.methodLink RX1 57 yX1_madeJob, Cond.instanceMethod yX1_madeJob, Cond.selects RX1 yX1_madeJob yX1_madeJob, Cond.code yX1_madeJob cX1_madeJob 2 (some (.object "FieldStore$Made")), Cond.classLink RX1 55 "FieldStore$Made", Cond.methodLink RX1 47 yJx4a65c_size_8abf5, Cond.methodLink RX1 51 yJx4a65c_get_915e3, Cond.methodLink RX5 109 yX1_takesActs, Cond.instanceMethod yX1_takesActs, Cond.selects RX1 yX1_takesActs yX1_takesActs, Cond.code yX1_takesActs cX1_takesActs 1 (some .boolean), Cond.methodLink RX5 113 yX1_changeJob, Cond.instanceMethod yX1_changeJob, Cond.selects RX1 yX1_changeJob yX1_changeJob, Cond.code yX1_changeJob cX1_changeJob 5 none, Cond.classLink RX1 82 RX0, Cond.instantiable RX0 5, Cond.initialized RX0]
def wsL_law0_r13 : List Cond := [Cond.methodLink RX1 87 yX2_versionOf, Cond.methodLink RX1 84 yX0_init, Cond.instanceMethod yX0_init, Cond.code yX0_init cX0_init 5 none, Cond.methodLink RX0 3 objectInit, Cond.fieldLink RX0 9 "FieldStore$Act" "reason" "I", Cond.fieldLink RX0 15 "FieldStore$Act" "job" "I", Cond.fieldLink RX0 18 "FieldStore$Act" "field" "I", Cond.fieldLink RX0 21 "FieldStore$Act" "value" "I", Cond.fieldLink RX0 24 "FieldStore$Act" "version" "I", Cond.methodLink RX1 78 yJx4a65c_add_9ea2d, Cond.methodLink RX1 91 yX2_put, Cond.methodLink RX5 117 yX1_waitingCount, Cond.instanceMethod yX1_waitingCount, Cond.selects RX1 yX1_waitingCount yX1_waitingCount, Cond.code yX1_waitingCount cX1_waitingCount 1 (some .int), Cond.methodLink RL 127 yL_makes, Cond.static yL_makes, Cond.codeWith yL_makes cL_makes 4 (some .int) [(0, 6, 7, 22), (0, 6, 11, 13)], Cond.methodLink RL 62 yX5_make, Cond.instanceMethod yX5_make, Cond.selects RX5 yX5_make yX5_make, Cond.code yX5_make cX5_make 4 (some .int), Cond.methodLink RX5 120 yX1_makeJob]
def wsL_law0_r14 : List Cond := [Cond.instanceMethod yX1_makeJob, Cond.selects RX1 yX1_makeJob yX1_makeJob, Cond.code yX1_makeJob cX1_makeJob 3 (some .int), Cond.classLink RX1 55 RX4, Cond.instantiable RX4 2, Cond.initialized RX4, Cond.instanceMethod yX4_init, Cond.code yX4_init cX4_init 1 none, Cond.methodLink RX4 3 objectInit, Cond.fieldLink RX4 9 "FieldStore$Made" "number" "I", Cond.classLink RX4 15 RX2, Cond.fieldLink RX4 18 "FieldStore$Made" "fields" "LFieldStore$Fields;", Cond.methodLink RL 136 yL_waiting, Cond.static yL_waiting, Cond.codeWith yL_waiting cL_waiting 3 (some .int) [(0, 5, 6, 22)], Cond.methodLink RL 71 yX5_waiting, Cond.instanceMethod yX5_waiting, Cond.selects RX5 yX5_waiting yX5_waiting, Cond.code yX5_waiting cX5_waiting 2 (some .int), Cond.methodLink RL 133 yL_sends, Cond.static yL_sends, Cond.codeWith yL_sends cL_sends 4 (some .int) [(0, 6, 7, 22), (0, 6, 11, 13)], Cond.methodLink RL 68 yX5_send, Cond.instanceMethod yX5_send]
def wsL_law0_r15 : List Cond := [Cond.selects RX5 yX5_send yX5_send, Cond.code yX5_send cX5_send 8 (some .int), Cond.methodLink RX5 137 yX1_takeAct, Cond.instanceMethod yX1_takeAct, Cond.selects RX1 yX1_takeAct yX1_takeAct, Cond.code yX1_takeAct cX1_takeAct 2 (some (.object "FieldStore$Act")), Cond.classLink RX1 82 "FieldStore$Act", Cond.methodLink RX5 141 yX5_deliver, Cond.instanceMethod yX5_deliver, Cond.selects RX5 yX5_deliver yX5_deliver, Cond.code yX5_deliver cX5_deliver 4 (some .int), Cond.fieldLink RX5 178 "FieldStore$Act" "field" "I", Cond.methodLink RX5 181 yX5_deliverMaking, Cond.instanceMethod yX5_deliverMaking, Cond.selects RX5 yX5_deliverMaking yX5_deliverMaking, Cond.code yX5_deliverMaking cX5_deliverMaking 5 (some .int), Cond.fieldLink RX5 187 "FieldStore$Act" "job" "I", Cond.fieldLink RX5 161 "FieldStore$Act" "value" "I", Cond.methodLink RX5 123 yX1_madeJob, Cond.methodLink RX5 190 yX1_giveNumber, Cond.instanceMethod yX1_giveNumber, Cond.selects RX1 yX1_giveNumber yX1_giveNumber, Cond.code yX1_giveNumber cX1_giveNumber 3 none, Cond.methodLink RX1 73 yX1_hold]
def wsL_law0_r16 : List Cond := [Cond.methodLink RX5 184 yX5_deliverChange, Cond.instanceMethod yX5_deliverChange, Cond.selects RX5 yX5_deliverChange yX5_deliverChange, Cond.code yX5_deliverChange cX5_deliverChange 6 (some .int), Cond.fieldLink RX5 197 "FieldStore$Act" "version" "I", Cond.methodLink RX5 194 yX1_centralNumber, Cond.instanceMethod yX1_centralNumber, Cond.selects RX1 yX1_centralNumber yX1_centralNumber, Cond.code yX1_centralNumber cX1_centralNumber 3 (some .int), Cond.methodLink RX5 200 yX5_isStep, Cond.static yX5_isStep, Cond.code yX5_isStep cX5_isStep 2 (some .boolean), Cond.methodLink RX5 145 yX1_refuse, Cond.instanceMethod yX1_refuse, Cond.selects RX1 yX1_refuse yX1_refuse, Cond.code yX1_refuse cX1_refuse 3 none, Cond.fieldLink RX1 95 "FieldStore$Act" "reason" "I", Cond.methodLink RL 157 yL_refuses, Cond.static yL_refuses, Cond.code yL_refuses cL_refuses 8 (some .boolean), Cond.methodLink RL 102 yL_crew, Cond.static yL_crew, Cond.codeWith yL_crew cL_crew 3 (some .int) [(0, 5, 6, 22)], Cond.methodLink RL 29 yX5_crew]
def wsL_law0_r17 : List Cond := [Cond.instanceMethod yX5_crew, Cond.selects RX5 yX5_crew yX5_crew, Cond.code yX5_crew cX5_crew 2 (some .int), Cond.methodLink RL 105 yL_site, Cond.static yL_site, Cond.codeWith yL_site cL_site 3 (some .int) [(0, 5, 6, 22)], Cond.methodLink RL 33 yX5_site, Cond.instanceMethod yX5_site, Cond.selects RX5 yX5_site yX5_site, Cond.code yX5_site cX5_site 2 (some .int), Cond.fieldLink RX5 74 "FieldStore$Job" "site" "I", Cond.methodLink RL 107 yL_value, Cond.static yL_value, Cond.codeWith yL_value cL_value 4 (some .int) [(0, 6, 7, 22), (0, 6, 11, 13)], Cond.methodLink RL 36 yX5_value, Cond.instanceMethod yX5_value, Cond.selects RX5 yX5_value yX5_value, Cond.code yX5_value cX5_value 4 (some .int), Cond.methodLink RX5 81 yX2_valueOf, Cond.instanceMethod yX2_valueOf, Cond.selects RX2 yX2_valueOf yX2_valueOf, Cond.code yX2_valueOf cX2_valueOf 2 (some .int), Cond.methodLink RL 109 yL_version, Cond.static yL_version]
def wsL_law0_r18 : List Cond := [Cond.codeWith yL_version cL_version 4 (some .int) [(0, 6, 7, 22), (0, 6, 11, 13)], Cond.methodLink RL 39 yX5_version, Cond.instanceMethod yX5_version, Cond.selects RX5 yX5_version yX5_version, Cond.code yX5_version cX5_version 4 (some .int), Cond.methodLink RL 117 yL_held, Cond.static yL_held, Cond.codeWith yL_held cL_held 3 (some .int) [(0, 5, 6, 22)], Cond.methodLink RL 48 yX5_held, Cond.instanceMethod yX5_held, Cond.selects RX5 yX5_held yX5_held, Cond.code yX5_held cX5_held 2 (some .int), Cond.methodLink RL 119 yL_holds, Cond.static yL_holds, Cond.codeWith yL_holds cL_holds 4 (some .int) [(0, 14, 15, 22)], Cond.methodLink RL 51 yX5_holds, Cond.instanceMethod yX5_holds, Cond.selects RX5 yX5_holds yX5_holds, Cond.code yX5_holds cX5_holds 3 (some .boolean), Cond.methodLink RL 121 yL_heldValue, Cond.static yL_heldValue, Cond.codeWith yL_heldValue cL_heldValue 5 (some .int) [(0, 7, 8, 22), (0, 7, 13, 13), (0, 7, 18, 16)], Cond.methodLink RL 55 yX5_heldValue, Cond.instanceMethod yX5_heldValue]
def wsL_law0_r19 : List Cond := [Cond.selects RX5 yX5_heldValue yX5_heldValue, Cond.code yX5_heldValue cX5_heldValue 5 (some .int), Cond.methodLink RL 130 yL_number, Cond.static yL_number, Cond.codeWith yL_number cL_number 4 (some .int) [(0, 6, 7, 22), (0, 6, 11, 13)], Cond.methodLink RL 65 yX5_numberOf, Cond.instanceMethod yX5_numberOf, Cond.selects RX5 yX5_numberOf yX5_numberOf, Cond.code yX5_numberOf cX5_numberOf 4 (some .int), Cond.fieldLink RX5 132 "FieldStore$Made" "number" "I", Cond.methodLink RL 138 yL_pile, Cond.static yL_pile, Cond.codeWith yL_pile cL_pile 3 (some .int) [(0, 5, 6, 22)], Cond.methodLink RL 74 yX5_pile, Cond.instanceMethod yX5_pile, Cond.selects RX5 yX5_pile yX5_pile, Cond.code yX5_pile cX5_pile 2 (some .int), Cond.fieldLink RX5 149 "FieldStore$Device" "refused" "Ljava/util/ArrayList;", Cond.methodLink RL 140 yL_reason, Cond.static yL_reason, Cond.codeWith yL_reason cL_reason 4 (some .int) [(0, 6, 7, 22)], Cond.methodLink RL 77 yX5_reason, Cond.instanceMethod yX5_reason, Cond.selects RX5 yX5_reason yX5_reason]
def wsL_law0_r20 : List Cond := [Cond.code yX5_reason cX5_reason 3 (some .int), Cond.fieldLink RX5 156 "FieldStore$Act" "reason" "I", Cond.methodLink RX5 152 yX5_refusedAt, Cond.instanceMethod yX5_refusedAt, Cond.selects RX5 yX5_refusedAt yX5_refusedAt, Cond.code yX5_refusedAt cX5_refusedAt 4 (some (.object "FieldStore$Act")), Cond.classLink RX5 157 "FieldStore$Act", Cond.methodLink RL 142 yL_refused, Cond.static yL_refused, Cond.codeWith yL_refused cL_refused 4 (some .int) [(0, 6, 7, 22)], Cond.methodLink RL 80 yX5_refusedValue, Cond.instanceMethod yX5_refusedValue, Cond.selects RX5 yX5_refusedValue yX5_refusedValue, Cond.code yX5_refusedValue cX5_refusedValue 3 (some .int), Cond.methodLink RL 161 yL_alike, Cond.static yL_alike, Cond.code yL_alike cL_alike 6 (some .boolean), Cond.methodLink RL 145 yX5_done, Cond.instanceMethod yX5_done, Cond.selects RX5 yX5_done yX5_done, Cond.code yX5_done cX5_done 1 (some .int), Cond.methodLink RL 165 yL_holdsAll, Cond.static yL_holdsAll, Cond.code yL_holdsAll cL_holdsAll 11 (some .boolean)]
def wsL_law0_r21 : List Cond := [Cond.methodLink RL 168 yL_fresh, Cond.static yL_fresh, Cond.code yL_fresh cL_fresh 13 (some .boolean)]
def wsL_law0 : List Cond := (wsL_law0_r1 ++ (wsL_law0_r2 ++ (wsL_law0_r3 ++ (wsL_law0_r4 ++ (wsL_law0_r5 ++ (wsL_law0_r6 ++ (wsL_law0_r7 ++ (wsL_law0_r8 ++ (wsL_law0_r9 ++ (wsL_law0_r10 ++ (wsL_law0_r11 ++ (wsL_law0_r12 ++ (wsL_law0_r13 ++ (wsL_law0_r14 ++ (wsL_law0_r15 ++ (wsL_law0_r16 ++ (wsL_law0_r17 ++ (wsL_law0_r18 ++ (wsL_law0_r19 ++ (wsL_law0_r20 ++ wsL_law0_r21)))))))))))))))))))) ++ wsX50 ++ wsJx4a65c0 ++ wsX10 ++ wsX30 ++ wsX20 ++ wsX40 ++ wsX00 ++ ([] : List Cond)
def wsL_law : List Cond := wsL_law0 ++ (vx_atS RX5 39 "java/lang/IllegalStateException" ["java/lang/RuntimeException", "java/lang/Exception"]).filter goodWord ++ (vx_atS RX5 131 "java/lang/IllegalArgumentException" ["java/lang/RuntimeException", "java/lang/Exception"]).filter goodWord ++ (vx_atS RX5 208 "java/lang/IndexOutOfBoundsException" ["java/lang/RuntimeException", "java/lang/Exception"]).filter goodWord
theorem inlX0 : ∀ w ∈ wsX00, w ∈ wsL_law := fun _ h => List.mem_append_left _ (List.mem_append_left _ (List.mem_append_left _ (List.mem_append_left _ (List.mem_append_right _ h))))
theorem inlX1 : ∀ w ∈ wsX10, w ∈ wsL_law := fun _ h => List.mem_append_left _ (List.mem_append_left _ (List.mem_append_left _ (List.mem_append_left _ (List.mem_append_left _ (List.mem_append_left _ (List.mem_append_left _ (List.mem_append_left _ (List.mem_append_right _ h))))))))
theorem inlX2 : ∀ w ∈ wsX20, w ∈ wsL_law := fun _ h => List.mem_append_left _ (List.mem_append_left _ (List.mem_append_left _ (List.mem_append_left _ (List.mem_append_left _ (List.mem_append_left _ (List.mem_append_right _ h))))))
theorem inlX3 : ∀ w ∈ wsX30, w ∈ wsL_law := fun _ h => List.mem_append_left _ (List.mem_append_left _ (List.mem_append_left _ (List.mem_append_left _ (List.mem_append_left _ (List.mem_append_left _ (List.mem_append_left _ (List.mem_append_right _ h)))))))
theorem inlX4 : ∀ w ∈ wsX40, w ∈ wsL_law := fun _ h => List.mem_append_left _ (List.mem_append_left _ (List.mem_append_left _ (List.mem_append_left _ (List.mem_append_left _ (List.mem_append_right _ h)))))
theorem inlX5 : ∀ w ∈ wsX50, w ∈ wsL_law := fun _ h => List.mem_append_left _ (List.mem_append_left _ (List.mem_append_left _ (List.mem_append_left _ (List.mem_append_left _ (List.mem_append_left _ (List.mem_append_left _ (List.mem_append_left _ (List.mem_append_left _ (List.mem_append_left _ (List.mem_append_right _ h))))))))))
theorem inlJx4a65c : ∀ w ∈ wsJx4a65c0, w ∈ wsL_law := fun _ h => List.mem_append_left _ (List.mem_append_left _ (List.mem_append_left _ (List.mem_append_left _ (List.mem_append_left _ (List.mem_append_left _ (List.mem_append_left _ (List.mem_append_left _ (List.mem_append_left _ (List.mem_append_right _ h)))))))))
abbrev vwCl : List vw_C := [(RJx4a65c, TJx4a65c, 3), (RX0, TX0, 5), (RX1, TX1, 9), (RX2, TX2, 4), (RX3, TX3, 3), (RX4, TX4, 2), (RX5, TX5, 3)]
/-! ===== END printed: names ===== -/
end
section
theorem dX0_init_0 : decode cX0_init 0 = .ok (.aload_n 0, 1) := by decide +kernel
theorem dX0_init_1 : decode cX0_init 1 = .ok (.invokespecial 3, 3) := by decide +kernel
theorem dX0_init_4 : decode cX0_init 4 = .ok (.aload_n 0, 1) := by decide +kernel
theorem dX0_init_5 : decode cX0_init 5 = .ok (.iconst (-1), 1) := by decide +kernel
theorem dX0_init_6 : decode cX0_init 6 = .ok (.putfield 9, 3) := by decide +kernel
theorem dX0_init_9 : decode cX0_init 9 = .ok (.aload_n 0, 1) := by decide +kernel
theorem dX0_init_10 : decode cX0_init 10 = .ok (.iload_n 1, 1) := by decide +kernel
theorem dX0_init_11 : decode cX0_init 11 = .ok (.putfield 15, 3) := by decide +kernel
theorem dX0_init_14 : decode cX0_init 14 = .ok (.aload_n 0, 1) := by decide +kernel
theorem dX0_init_15 : decode cX0_init 15 = .ok (.iload_n 2, 1) := by decide +kernel
theorem dX0_init_16 : decode cX0_init 16 = .ok (.putfield 18, 3) := by decide +kernel
theorem dX0_init_19 : decode cX0_init 19 = .ok (.aload_n 0, 1) := by decide +kernel
theorem dX0_init_20 : decode cX0_init 20 = .ok (.iload_n 3, 1) := by decide +kernel
theorem dX0_init_21 : decode cX0_init 21 = .ok (.putfield 21, 3) := by decide +kernel
theorem dX0_init_24 : decode cX0_init 24 = .ok (.aload_n 0, 1) := by decide +kernel
theorem dX0_init_25 : decode cX0_init 25 = .ok (.iload 4, 2) := by decide +kernel
theorem dX0_init_27 : decode cX0_init 27 = .ok (.putfield 24, 3) := by decide +kernel
theorem dX0_init_30 : decode cX0_init 30 = .ok (.return_, 1) := by decide +kernel
theorem dX1_init_0 : decode cX1_init 0 = .ok (.aload_n 0, 1) := by decide +kernel
theorem dX1_init_1 : decode cX1_init 1 = .ok (.invokespecial 3, 3) := by decide +kernel
theorem dX1_init_4 : decode cX1_init 4 = .ok (.aload_n 0, 1) := by decide +kernel
theorem dX1_init_5 : decode cX1_init 5 = .ok (.bipush 10, 2) := by decide +kernel
theorem dX1_init_7 : decode cX1_init 7 = .ok (.putfield 9, 3) := by decide +kernel
theorem dX1_init_10 : decode cX1_init 10 = .ok (.aload_n 0, 1) := by decide +kernel
theorem dX1_init_11 : decode cX1_init 11 = .ok (.bipush 40, 2) := by decide +kernel
theorem dX1_init_13 : decode cX1_init 13 = .ok (.anewarray 15, 3) := by decide +kernel
theorem dX1_init_16 : decode cX1_init 16 = .ok (.putfield 17, 3) := by decide +kernel
theorem dX1_init_19 : decode cX1_init 19 = .ok (.aload_n 0, 1) := by decide +kernel
theorem dX1_init_20 : decode cX1_init 20 = .ok (.bipush 40, 2) := by decide +kernel
theorem dX1_init_22 : decode cX1_init 22 = .ok (.newarray .boolean, 2) := by decide +kernel
theorem dX1_init_24 : decode cX1_init 24 = .ok (.putfield 21, 3) := by decide +kernel
theorem dX1_init_27 : decode cX1_init 27 = .ok (.aload_n 0, 1) := by decide +kernel
theorem dX1_init_28 : decode cX1_init 28 = .ok (.iconst 0, 1) := by decide +kernel
theorem dX1_init_29 : decode cX1_init 29 = .ok (.putfield 25, 3) := by decide +kernel
theorem dX1_init_32 : decode cX1_init 32 = .ok (.aload_n 0, 1) := by decide +kernel
theorem dX1_init_33 : decode cX1_init 33 = .ok (.new 28, 3) := by decide +kernel
theorem dX1_init_36 : decode cX1_init 36 = .ok (.dup, 1) := by decide +kernel
theorem dX1_init_37 : decode cX1_init 37 = .ok (.invokespecial 30, 3) := by decide +kernel
theorem dX1_init_40 : decode cX1_init 40 = .ok (.putfield 31, 3) := by decide +kernel
theorem dX1_init_43 : decode cX1_init 43 = .ok (.aload_n 0, 1) := by decide +kernel
theorem dX1_init_44 : decode cX1_init 44 = .ok (.iconst 0, 1) := by decide +kernel
theorem dX1_init_45 : decode cX1_init 45 = .ok (.putfield 35, 3) := by decide +kernel
theorem dX1_init_48 : decode cX1_init 48 = .ok (.aload_n 0, 1) := by decide +kernel
theorem dX1_init_49 : decode cX1_init 49 = .ok (.new 28, 3) := by decide +kernel
theorem dX1_init_52 : decode cX1_init 52 = .ok (.dup, 1) := by decide +kernel
theorem dX1_init_53 : decode cX1_init 53 = .ok (.invokespecial 30, 3) := by decide +kernel
theorem dX1_init_56 : decode cX1_init 56 = .ok (.putfield 38, 3) := by decide +kernel
theorem dX1_init_59 : decode cX1_init 59 = .ok (.aload_n 0, 1) := by decide +kernel
theorem dX1_init_60 : decode cX1_init 60 = .ok (.iconst 0, 1) := by decide +kernel
theorem dX1_init_61 : decode cX1_init 61 = .ok (.putfield 41, 3) := by decide +kernel
theorem dX1_init_64 : decode cX1_init 64 = .ok (.aload_n 0, 1) := by decide +kernel
theorem dX1_init_65 : decode cX1_init 65 = .ok (.new 28, 3) := by decide +kernel
theorem dX1_init_68 : decode cX1_init 68 = .ok (.dup, 1) := by decide +kernel
theorem dX1_init_69 : decode cX1_init 69 = .ok (.invokespecial 30, 3) := by decide +kernel
theorem dX1_init_72 : decode cX1_init 72 = .ok (.putfield 44, 3) := by decide +kernel
theorem dX1_init_75 : decode cX1_init 75 = .ok (.return_, 1) := by decide +kernel
theorem dX1_madeJob_0 : decode cX1_madeJob 0 = .ok (.iload_n 1, 1) := by decide +kernel
theorem dX1_madeJob_1 : decode cX1_madeJob 1 = .ok (.sipush 1000, 3) := by decide +kernel
theorem dX1_madeJob_4 : decode cX1_madeJob 4 = .ok (.if_icmp .lt 18, 3) := by decide +kernel
theorem dX1_madeJob_7 : decode cX1_madeJob 7 = .ok (.iload_n 1, 1) := by decide +kernel
theorem dX1_madeJob_8 : decode cX1_madeJob 8 = .ok (.sipush 1000, 3) := by decide +kernel
theorem dX1_madeJob_11 : decode cX1_madeJob 11 = .ok (.isub, 1) := by decide +kernel
theorem dX1_madeJob_12 : decode cX1_madeJob 12 = .ok (.aload_n 0, 1) := by decide +kernel
theorem dX1_madeJob_13 : decode cX1_madeJob 13 = .ok (.getfield 31, 3) := by decide +kernel
theorem dX1_madeJob_16 : decode cX1_madeJob 16 = .ok (.invokevirtual 47, 3) := by decide +kernel
theorem dX1_madeJob_19 : decode cX1_madeJob 19 = .ok (.if_icmp .lt 5, 3) := by decide +kernel
theorem dX1_madeJob_22 : decode cX1_madeJob 22 = .ok (.aconst_null, 1) := by decide +kernel
theorem dX1_madeJob_23 : decode cX1_madeJob 23 = .ok (.areturn, 1) := by decide +kernel
theorem dX1_madeJob_24 : decode cX1_madeJob 24 = .ok (.aload_n 0, 1) := by decide +kernel
theorem dX1_madeJob_25 : decode cX1_madeJob 25 = .ok (.getfield 31, 3) := by decide +kernel
theorem dX1_madeJob_28 : decode cX1_madeJob 28 = .ok (.iload_n 1, 1) := by decide +kernel
theorem dX1_madeJob_29 : decode cX1_madeJob 29 = .ok (.sipush 1000, 3) := by decide +kernel
theorem dX1_madeJob_32 : decode cX1_madeJob 32 = .ok (.isub, 1) := by decide +kernel
theorem dX1_madeJob_33 : decode cX1_madeJob 33 = .ok (.invokevirtual 51, 3) := by decide +kernel
theorem dX1_madeJob_36 : decode cX1_madeJob 36 = .ok (.checkcast 55, 3) := by decide +kernel
theorem dX1_madeJob_39 : decode cX1_madeJob 39 = .ok (.areturn, 1) := by decide +kernel
theorem dX1_centralNumber_0 : decode cX1_centralNumber 0 = .ok (.aload_n 0, 1) := by decide +kernel
theorem dX1_centralNumber_1 : decode cX1_centralNumber 1 = .ok (.iload_n 1, 1) := by decide +kernel
theorem dX1_centralNumber_2 : decode cX1_centralNumber 2 = .ok (.invokevirtual 57, 3) := by decide +kernel
theorem dX1_centralNumber_5 : decode cX1_centralNumber 5 = .ok (.astore_n 2, 1) := by decide +kernel
theorem dX1_centralNumber_6 : decode cX1_centralNumber 6 = .ok (.aload_n 2, 1) := by decide +kernel
theorem dX1_centralNumber_7 : decode cX1_centralNumber 7 = .ok (.ifnonnull 7, 3) := by decide +kernel
theorem dX1_centralNumber_10 : decode cX1_centralNumber 10 = .ok (.iload_n 1, 1) := by decide +kernel
theorem dX1_centralNumber_11 : decode cX1_centralNumber 11 = .ok (.goto 7, 3) := by decide +kernel
theorem dX1_centralNumber_14 : decode cX1_centralNumber 14 = .ok (.aload_n 2, 1) := by decide +kernel
theorem dX1_centralNumber_15 : decode cX1_centralNumber 15 = .ok (.getfield 61, 3) := by decide +kernel
theorem dX1_centralNumber_18 : decode cX1_centralNumber 18 = .ok (.ireturn, 1) := by decide +kernel
theorem dX1_heldFields_0 : decode cX1_heldFields 0 = .ok (.aload_n 0, 1) := by decide +kernel
theorem dX1_heldFields_1 : decode cX1_heldFields 1 = .ok (.iload_n 1, 1) := by decide +kernel
theorem dX1_heldFields_2 : decode cX1_heldFields 2 = .ok (.invokevirtual 57, 3) := by decide +kernel
theorem dX1_heldFields_5 : decode cX1_heldFields 5 = .ok (.astore_n 2, 1) := by decide +kernel
theorem dX1_heldFields_6 : decode cX1_heldFields 6 = .ok (.aload_n 2, 1) := by decide +kernel
theorem dX1_heldFields_7 : decode cX1_heldFields 7 = .ok (.ifnull 16, 3) := by decide +kernel
theorem dX1_heldFields_10 : decode cX1_heldFields 10 = .ok (.aload_n 2, 1) := by decide +kernel
theorem dX1_heldFields_11 : decode cX1_heldFields 11 = .ok (.getfield 61, 3) := by decide +kernel
theorem dX1_heldFields_14 : decode cX1_heldFields 14 = .ok (.iconst (-1), 1) := by decide +kernel
theorem dX1_heldFields_15 : decode cX1_heldFields 15 = .ok (.if_icmp .ne 8, 3) := by decide +kernel
theorem dX1_heldFields_18 : decode cX1_heldFields 18 = .ok (.aload_n 2, 1) := by decide +kernel
theorem dX1_heldFields_19 : decode cX1_heldFields 19 = .ok (.getfield 64, 3) := by decide +kernel
theorem dX1_heldFields_22 : decode cX1_heldFields 22 = .ok (.areturn, 1) := by decide +kernel
theorem dX1_heldFields_23 : decode cX1_heldFields 23 = .ok (.aload_n 2, 1) := by decide +kernel
theorem dX1_heldFields_24 : decode cX1_heldFields 24 = .ok (.ifnonnull 7, 3) := by decide +kernel
theorem dX1_heldFields_27 : decode cX1_heldFields 27 = .ok (.iload_n 1, 1) := by decide +kernel
theorem dX1_heldFields_28 : decode cX1_heldFields 28 = .ok (.goto 7, 3) := by decide +kernel
theorem dX1_heldFields_31 : decode cX1_heldFields 31 = .ok (.aload_n 2, 1) := by decide +kernel
theorem dX1_heldFields_32 : decode cX1_heldFields 32 = .ok (.getfield 61, 3) := by decide +kernel
theorem dX1_heldFields_35 : decode cX1_heldFields 35 = .ok (.istore_n 3, 1) := by decide +kernel
theorem dX1_heldFields_36 : decode cX1_heldFields 36 = .ok (.iload_n 3, 1) := by decide +kernel
theorem dX1_heldFields_37 : decode cX1_heldFields 37 = .ok (.ifCond .lt 18, 3) := by decide +kernel
theorem dX1_heldFields_40 : decode cX1_heldFields 40 = .ok (.iload_n 3, 1) := by decide +kernel
theorem dX1_heldFields_41 : decode cX1_heldFields 41 = .ok (.bipush 40, 2) := by decide +kernel
theorem dX1_heldFields_43 : decode cX1_heldFields 43 = .ok (.if_icmp .ge 12, 3) := by decide +kernel
theorem dX1_heldFields_46 : decode cX1_heldFields 46 = .ok (.aload_n 0, 1) := by decide +kernel
theorem dX1_heldFields_47 : decode cX1_heldFields 47 = .ok (.getfield 21, 3) := by decide +kernel
theorem dX1_heldFields_50 : decode cX1_heldFields 50 = .ok (.iload_n 3, 1) := by decide +kernel
theorem dX1_heldFields_51 : decode cX1_heldFields 51 = .ok (.baload, 1) := by decide +kernel
theorem dX1_heldFields_52 : decode cX1_heldFields 52 = .ok (.ifCond .ne 5, 3) := by decide +kernel
theorem dX1_heldFields_55 : decode cX1_heldFields 55 = .ok (.aconst_null, 1) := by decide +kernel
theorem dX1_heldFields_56 : decode cX1_heldFields 56 = .ok (.areturn, 1) := by decide +kernel
theorem dX1_heldFields_57 : decode cX1_heldFields 57 = .ok (.aload_n 0, 1) := by decide +kernel
theorem dX1_heldFields_58 : decode cX1_heldFields 58 = .ok (.getfield 17, 3) := by decide +kernel
theorem dX1_heldFields_61 : decode cX1_heldFields 61 = .ok (.iload_n 3, 1) := by decide +kernel
theorem dX1_heldFields_62 : decode cX1_heldFields 62 = .ok (.aaload, 1) := by decide +kernel
theorem dX1_heldFields_63 : decode cX1_heldFields 63 = .ok (.areturn, 1) := by decide +kernel
theorem dX1_heldCount_0 : decode cX1_heldCount 0 = .ok (.aload_n 0, 1) := by decide +kernel
theorem dX1_heldCount_1 : decode cX1_heldCount 1 = .ok (.getfield 25, 3) := by decide +kernel
theorem dX1_heldCount_4 : decode cX1_heldCount 4 = .ok (.aload_n 0, 1) := by decide +kernel
theorem dX1_heldCount_5 : decode cX1_heldCount 5 = .ok (.getfield 35, 3) := by decide +kernel
theorem dX1_heldCount_8 : decode cX1_heldCount 8 = .ok (.iadd, 1) := by decide +kernel
theorem dX1_heldCount_9 : decode cX1_heldCount 9 = .ok (.ireturn, 1) := by decide +kernel
theorem dX1_dropCopies_0 : decode cX1_dropCopies 0 = .ok (.iconst 0, 1) := by decide +kernel
theorem dX1_dropCopies_1 : decode cX1_dropCopies 1 = .ok (.istore_n 1, 1) := by decide +kernel
theorem dX1_dropCopies_2 : decode cX1_dropCopies 2 = .ok (.iload_n 1, 1) := by decide +kernel
theorem dX1_dropCopies_3 : decode cX1_dropCopies 3 = .ok (.bipush 40, 2) := by decide +kernel
theorem dX1_dropCopies_5 : decode cX1_dropCopies 5 = .ok (.if_icmp .ge 16, 3) := by decide +kernel
theorem dX1_dropCopies_8 : decode cX1_dropCopies 8 = .ok (.aload_n 0, 1) := by decide +kernel
theorem dX1_dropCopies_9 : decode cX1_dropCopies 9 = .ok (.getfield 21, 3) := by decide +kernel
theorem dX1_dropCopies_12 : decode cX1_dropCopies 12 = .ok (.iload_n 1, 1) := by decide +kernel
theorem dX1_dropCopies_13 : decode cX1_dropCopies 13 = .ok (.iconst 0, 1) := by decide +kernel
theorem dX1_dropCopies_14 : decode cX1_dropCopies 14 = .ok (.bastore, 1) := by decide +kernel
theorem dX1_dropCopies_15 : decode cX1_dropCopies 15 = .ok (.iinc 1 1, 3) := by decide +kernel
theorem dX1_dropCopies_18 : decode cX1_dropCopies 18 = .ok (.goto (-16), 3) := by decide +kernel
theorem dX1_dropCopies_21 : decode cX1_dropCopies 21 = .ok (.aload_n 0, 1) := by decide +kernel
theorem dX1_dropCopies_22 : decode cX1_dropCopies 22 = .ok (.iconst 0, 1) := by decide +kernel
theorem dX1_dropCopies_23 : decode cX1_dropCopies 23 = .ok (.putfield 25, 3) := by decide +kernel
theorem dX1_dropCopies_26 : decode cX1_dropCopies 26 = .ok (.return_, 1) := by decide +kernel
theorem dX1_hold_0 : decode cX1_hold 0 = .ok (.iload_n 1, 1) := by decide +kernel
theorem dX1_hold_1 : decode cX1_hold 1 = .ok (.ifCond .lt 9, 3) := by decide +kernel
theorem dX1_hold_4 : decode cX1_hold 4 = .ok (.iload_n 1, 1) := by decide +kernel
theorem dX1_hold_5 : decode cX1_hold 5 = .ok (.bipush 40, 2) := by decide +kernel
theorem dX1_hold_7 : decode cX1_hold 7 = .ok (.if_icmp .lt 4, 3) := by decide +kernel
theorem dX1_hold_10 : decode cX1_hold 10 = .ok (.return_, 1) := by decide +kernel
theorem dX1_hold_11 : decode cX1_hold 11 = .ok (.aload_n 0, 1) := by decide +kernel
theorem dX1_hold_12 : decode cX1_hold 12 = .ok (.getfield 17, 3) := by decide +kernel
theorem dX1_hold_15 : decode cX1_hold 15 = .ok (.iload_n 1, 1) := by decide +kernel
theorem dX1_hold_16 : decode cX1_hold 16 = .ok (.aaload, 1) := by decide +kernel
theorem dX1_hold_17 : decode cX1_hold 17 = .ok (.astore_n 3, 1) := by decide +kernel
theorem dX1_hold_18 : decode cX1_hold 18 = .ok (.aload_n 3, 1) := by decide +kernel
theorem dX1_hold_19 : decode cX1_hold 19 = .ok (.ifnonnull 18, 3) := by decide +kernel
theorem dX1_hold_22 : decode cX1_hold 22 = .ok (.new 15, 3) := by decide +kernel
theorem dX1_hold_25 : decode cX1_hold 25 = .ok (.dup, 1) := by decide +kernel
theorem dX1_hold_26 : decode cX1_hold 26 = .ok (.invokespecial 68, 3) := by decide +kernel
theorem dX1_hold_29 : decode cX1_hold 29 = .ok (.astore_n 3, 1) := by decide +kernel
theorem dX1_hold_30 : decode cX1_hold 30 = .ok (.aload_n 0, 1) := by decide +kernel
theorem dX1_hold_31 : decode cX1_hold 31 = .ok (.getfield 17, 3) := by decide +kernel
theorem dX1_hold_34 : decode cX1_hold 34 = .ok (.iload_n 1, 1) := by decide +kernel
theorem dX1_hold_35 : decode cX1_hold 35 = .ok (.aload_n 3, 1) := by decide +kernel
theorem dX1_hold_36 : decode cX1_hold 36 = .ok (.aastore, 1) := by decide +kernel
theorem dX1_hold_37 : decode cX1_hold 37 = .ok (.aload_n 3, 1) := by decide +kernel
theorem dX1_hold_38 : decode cX1_hold 38 = .ok (.aload_n 2, 1) := by decide +kernel
theorem dX1_hold_39 : decode cX1_hold 39 = .ok (.invokevirtual 69, 3) := by decide +kernel
theorem dX1_hold_42 : decode cX1_hold 42 = .ok (.aload_n 0, 1) := by decide +kernel
theorem dX1_hold_43 : decode cX1_hold 43 = .ok (.getfield 21, 3) := by decide +kernel
theorem dX1_hold_46 : decode cX1_hold 46 = .ok (.iload_n 1, 1) := by decide +kernel
theorem dX1_hold_47 : decode cX1_hold 47 = .ok (.baload, 1) := by decide +kernel
theorem dX1_hold_48 : decode cX1_hold 48 = .ok (.ifCond .ne 20, 3) := by decide +kernel
theorem dX1_hold_51 : decode cX1_hold 51 = .ok (.aload_n 0, 1) := by decide +kernel
theorem dX1_hold_52 : decode cX1_hold 52 = .ok (.getfield 21, 3) := by decide +kernel
theorem dX1_hold_55 : decode cX1_hold 55 = .ok (.iload_n 1, 1) := by decide +kernel
theorem dX1_hold_56 : decode cX1_hold 56 = .ok (.iconst 1, 1) := by decide +kernel
theorem dX1_hold_57 : decode cX1_hold 57 = .ok (.bastore, 1) := by decide +kernel
theorem dX1_hold_58 : decode cX1_hold 58 = .ok (.aload_n 0, 1) := by decide +kernel
theorem dX1_hold_59 : decode cX1_hold 59 = .ok (.dup, 1) := by decide +kernel
theorem dX1_hold_60 : decode cX1_hold 60 = .ok (.getfield 25, 3) := by decide +kernel
theorem dX1_hold_63 : decode cX1_hold 63 = .ok (.iconst 1, 1) := by decide +kernel
theorem dX1_hold_64 : decode cX1_hold 64 = .ok (.iadd, 1) := by decide +kernel
theorem dX1_hold_65 : decode cX1_hold 65 = .ok (.putfield 25, 3) := by decide +kernel
theorem dX1_hold_68 : decode cX1_hold 68 = .ok (.return_, 1) := by decide +kernel
theorem dX1_giveNumber_0 : decode cX1_giveNumber 0 = .ok (.aload_n 1, 1) := by decide +kernel
theorem dX1_giveNumber_1 : decode cX1_giveNumber 1 = .ok (.iload_n 2, 1) := by decide +kernel
theorem dX1_giveNumber_2 : decode cX1_giveNumber 2 = .ok (.putfield 61, 3) := by decide +kernel
theorem dX1_giveNumber_5 : decode cX1_giveNumber 5 = .ok (.aload_n 0, 1) := by decide +kernel
theorem dX1_giveNumber_6 : decode cX1_giveNumber 6 = .ok (.dup, 1) := by decide +kernel
theorem dX1_giveNumber_7 : decode cX1_giveNumber 7 = .ok (.getfield 35, 3) := by decide +kernel
theorem dX1_giveNumber_10 : decode cX1_giveNumber 10 = .ok (.iconst 1, 1) := by decide +kernel
theorem dX1_giveNumber_11 : decode cX1_giveNumber 11 = .ok (.isub, 1) := by decide +kernel
theorem dX1_giveNumber_12 : decode cX1_giveNumber 12 = .ok (.putfield 35, 3) := by decide +kernel
theorem dX1_giveNumber_15 : decode cX1_giveNumber 15 = .ok (.aload_n 0, 1) := by decide +kernel
theorem dX1_giveNumber_16 : decode cX1_giveNumber 16 = .ok (.iload_n 2, 1) := by decide +kernel
theorem dX1_giveNumber_17 : decode cX1_giveNumber 17 = .ok (.aload_n 1, 1) := by decide +kernel
theorem dX1_giveNumber_18 : decode cX1_giveNumber 18 = .ok (.getfield 64, 3) := by decide +kernel
theorem dX1_giveNumber_21 : decode cX1_giveNumber 21 = .ok (.invokevirtual 73, 3) := by decide +kernel
theorem dX1_giveNumber_24 : decode cX1_giveNumber 24 = .ok (.return_, 1) := by decide +kernel
theorem dX1_takesActs_0 : decode cX1_takesActs 0 = .ok (.aload_n 0, 1) := by decide +kernel
theorem dX1_takesActs_1 : decode cX1_takesActs 1 = .ok (.getfield 38, 3) := by decide +kernel
theorem dX1_takesActs_4 : decode cX1_takesActs 4 = .ok (.invokevirtual 47, 3) := by decide +kernel
theorem dX1_takesActs_7 : decode cX1_takesActs 7 = .ok (.sipush 512, 3) := by decide +kernel
theorem dX1_takesActs_10 : decode cX1_takesActs 10 = .ok (.if_icmp .ge 7, 3) := by decide +kernel
theorem dX1_takesActs_13 : decode cX1_takesActs 13 = .ok (.iconst 1, 1) := by decide +kernel
theorem dX1_takesActs_14 : decode cX1_takesActs 14 = .ok (.goto 4, 3) := by decide +kernel
theorem dX1_takesActs_17 : decode cX1_takesActs 17 = .ok (.iconst 0, 1) := by decide +kernel
theorem dX1_takesActs_18 : decode cX1_takesActs 18 = .ok (.ireturn, 1) := by decide +kernel
theorem dX1_waitingCount_0 : decode cX1_waitingCount 0 = .ok (.aload_n 0, 1) := by decide +kernel
theorem dX1_waitingCount_1 : decode cX1_waitingCount 1 = .ok (.getfield 38, 3) := by decide +kernel
theorem dX1_waitingCount_4 : decode cX1_waitingCount 4 = .ok (.invokevirtual 47, 3) := by decide +kernel
theorem dX1_waitingCount_7 : decode cX1_waitingCount 7 = .ok (.aload_n 0, 1) := by decide +kernel
theorem dX1_waitingCount_8 : decode cX1_waitingCount 8 = .ok (.getfield 41, 3) := by decide +kernel
theorem dX1_waitingCount_11 : decode cX1_waitingCount 11 = .ok (.isub, 1) := by decide +kernel
theorem dX1_waitingCount_12 : decode cX1_waitingCount 12 = .ok (.ireturn, 1) := by decide +kernel
theorem dX1_makeJob_0 : decode cX1_makeJob 0 = .ok (.sipush 1000, 3) := by decide +kernel
theorem dX1_makeJob_3 : decode cX1_makeJob 3 = .ok (.aload_n 0, 1) := by decide +kernel
theorem dX1_makeJob_4 : decode cX1_makeJob 4 = .ok (.getfield 31, 3) := by decide +kernel
theorem dX1_makeJob_7 : decode cX1_makeJob 7 = .ok (.invokevirtual 47, 3) := by decide +kernel
theorem dX1_makeJob_10 : decode cX1_makeJob 10 = .ok (.iadd, 1) := by decide +kernel
theorem dX1_makeJob_11 : decode cX1_makeJob 11 = .ok (.istore_n 2, 1) := by decide +kernel
theorem dX1_makeJob_12 : decode cX1_makeJob 12 = .ok (.aload_n 0, 1) := by decide +kernel
theorem dX1_makeJob_13 : decode cX1_makeJob 13 = .ok (.getfield 31, 3) := by decide +kernel
theorem dX1_makeJob_16 : decode cX1_makeJob 16 = .ok (.new 55, 3) := by decide +kernel
theorem dX1_makeJob_19 : decode cX1_makeJob 19 = .ok (.dup, 1) := by decide +kernel
theorem dX1_makeJob_20 : decode cX1_makeJob 20 = .ok (.invokespecial 77, 3) := by decide +kernel
theorem dX1_makeJob_23 : decode cX1_makeJob 23 = .ok (.invokevirtual 78, 3) := by decide +kernel
theorem dX1_makeJob_26 : decode cX1_makeJob 26 = .ok (.pop, 1) := by decide +kernel
theorem dX1_makeJob_27 : decode cX1_makeJob 27 = .ok (.aload_n 0, 1) := by decide +kernel
theorem dX1_makeJob_28 : decode cX1_makeJob 28 = .ok (.dup, 1) := by decide +kernel
theorem dX1_makeJob_29 : decode cX1_makeJob 29 = .ok (.getfield 35, 3) := by decide +kernel
theorem dX1_makeJob_32 : decode cX1_makeJob 32 = .ok (.iconst 1, 1) := by decide +kernel
theorem dX1_makeJob_33 : decode cX1_makeJob 33 = .ok (.iadd, 1) := by decide +kernel
theorem dX1_makeJob_34 : decode cX1_makeJob 34 = .ok (.putfield 35, 3) := by decide +kernel
theorem dX1_makeJob_37 : decode cX1_makeJob 37 = .ok (.aload_n 0, 1) := by decide +kernel
theorem dX1_makeJob_38 : decode cX1_makeJob 38 = .ok (.getfield 38, 3) := by decide +kernel
theorem dX1_makeJob_41 : decode cX1_makeJob 41 = .ok (.new 82, 3) := by decide +kernel
theorem dX1_makeJob_44 : decode cX1_makeJob 44 = .ok (.dup, 1) := by decide +kernel
theorem dX1_makeJob_45 : decode cX1_makeJob 45 = .ok (.iload_n 2, 1) := by decide +kernel
theorem dX1_makeJob_46 : decode cX1_makeJob 46 = .ok (.iconst (-1), 1) := by decide +kernel
theorem dX1_makeJob_47 : decode cX1_makeJob 47 = .ok (.iload_n 1, 1) := by decide +kernel
theorem dX1_makeJob_48 : decode cX1_makeJob 48 = .ok (.iconst 0, 1) := by decide +kernel
theorem dX1_makeJob_49 : decode cX1_makeJob 49 = .ok (.invokespecial 84, 3) := by decide +kernel
theorem dX1_makeJob_52 : decode cX1_makeJob 52 = .ok (.invokevirtual 78, 3) := by decide +kernel
theorem dX1_makeJob_55 : decode cX1_makeJob 55 = .ok (.pop, 1) := by decide +kernel
theorem dX1_makeJob_56 : decode cX1_makeJob 56 = .ok (.iload_n 2, 1) := by decide +kernel
theorem dX1_makeJob_57 : decode cX1_makeJob 57 = .ok (.ireturn, 1) := by decide +kernel
theorem dX1_changeJob_0 : decode cX1_changeJob 0 = .ok (.aload_n 0, 1) := by decide +kernel
theorem dX1_changeJob_1 : decode cX1_changeJob 1 = .ok (.getfield 38, 3) := by decide +kernel
theorem dX1_changeJob_4 : decode cX1_changeJob 4 = .ok (.new 82, 3) := by decide +kernel
theorem dX1_changeJob_7 : decode cX1_changeJob 7 = .ok (.dup, 1) := by decide +kernel
theorem dX1_changeJob_8 : decode cX1_changeJob 8 = .ok (.iload_n 1, 1) := by decide +kernel
theorem dX1_changeJob_9 : decode cX1_changeJob 9 = .ok (.iload_n 3, 1) := by decide +kernel
theorem dX1_changeJob_10 : decode cX1_changeJob 10 = .ok (.iload 4, 2) := by decide +kernel
theorem dX1_changeJob_12 : decode cX1_changeJob 12 = .ok (.aload_n 2, 1) := by decide +kernel
theorem dX1_changeJob_13 : decode cX1_changeJob 13 = .ok (.iload_n 3, 1) := by decide +kernel
theorem dX1_changeJob_14 : decode cX1_changeJob 14 = .ok (.invokevirtual 87, 3) := by decide +kernel
theorem dX1_changeJob_17 : decode cX1_changeJob 17 = .ok (.invokespecial 84, 3) := by decide +kernel
theorem dX1_changeJob_20 : decode cX1_changeJob 20 = .ok (.invokevirtual 78, 3) := by decide +kernel
theorem dX1_changeJob_23 : decode cX1_changeJob 23 = .ok (.pop, 1) := by decide +kernel
theorem dX1_changeJob_24 : decode cX1_changeJob 24 = .ok (.aload_n 2, 1) := by decide +kernel
theorem dX1_changeJob_25 : decode cX1_changeJob 25 = .ok (.iload_n 3, 1) := by decide +kernel
theorem dX1_changeJob_26 : decode cX1_changeJob 26 = .ok (.iload 4, 2) := by decide +kernel
theorem dX1_changeJob_28 : decode cX1_changeJob 28 = .ok (.invokevirtual 91, 3) := by decide +kernel
theorem dX1_changeJob_31 : decode cX1_changeJob 31 = .ok (.return_, 1) := by decide +kernel
theorem dX1_takeAct_0 : decode cX1_takeAct 0 = .ok (.aload_n 0, 1) := by decide +kernel
theorem dX1_takeAct_1 : decode cX1_takeAct 1 = .ok (.getfield 41, 3) := by decide +kernel
theorem dX1_takeAct_4 : decode cX1_takeAct 4 = .ok (.ifCond .lt 17, 3) := by decide +kernel
theorem dX1_takeAct_7 : decode cX1_takeAct 7 = .ok (.aload_n 0, 1) := by decide +kernel
theorem dX1_takeAct_8 : decode cX1_takeAct 8 = .ok (.getfield 41, 3) := by decide +kernel
theorem dX1_takeAct_11 : decode cX1_takeAct 11 = .ok (.aload_n 0, 1) := by decide +kernel
theorem dX1_takeAct_12 : decode cX1_takeAct 12 = .ok (.getfield 38, 3) := by decide +kernel
theorem dX1_takeAct_15 : decode cX1_takeAct 15 = .ok (.invokevirtual 47, 3) := by decide +kernel
theorem dX1_takeAct_18 : decode cX1_takeAct 18 = .ok (.if_icmp .lt 5, 3) := by decide +kernel
theorem dX1_takeAct_21 : decode cX1_takeAct 21 = .ok (.aconst_null, 1) := by decide +kernel
theorem dX1_takeAct_22 : decode cX1_takeAct 22 = .ok (.areturn, 1) := by decide +kernel
theorem dX1_takeAct_23 : decode cX1_takeAct 23 = .ok (.aload_n 0, 1) := by decide +kernel
theorem dX1_takeAct_24 : decode cX1_takeAct 24 = .ok (.getfield 38, 3) := by decide +kernel
theorem dX1_takeAct_27 : decode cX1_takeAct 27 = .ok (.aload_n 0, 1) := by decide +kernel
theorem dX1_takeAct_28 : decode cX1_takeAct 28 = .ok (.getfield 41, 3) := by decide +kernel
theorem dX1_takeAct_31 : decode cX1_takeAct 31 = .ok (.invokevirtual 51, 3) := by decide +kernel
theorem dX1_takeAct_34 : decode cX1_takeAct 34 = .ok (.checkcast 82, 3) := by decide +kernel
theorem dX1_takeAct_37 : decode cX1_takeAct 37 = .ok (.astore_n 1, 1) := by decide +kernel
theorem dX1_takeAct_38 : decode cX1_takeAct 38 = .ok (.aload_n 0, 1) := by decide +kernel
theorem dX1_takeAct_39 : decode cX1_takeAct 39 = .ok (.dup, 1) := by decide +kernel
theorem dX1_takeAct_40 : decode cX1_takeAct 40 = .ok (.getfield 41, 3) := by decide +kernel
theorem dX1_takeAct_43 : decode cX1_takeAct 43 = .ok (.iconst 1, 1) := by decide +kernel
theorem dX1_takeAct_44 : decode cX1_takeAct 44 = .ok (.iadd, 1) := by decide +kernel
theorem dX1_takeAct_45 : decode cX1_takeAct 45 = .ok (.putfield 41, 3) := by decide +kernel
theorem dX1_takeAct_48 : decode cX1_takeAct 48 = .ok (.aload_n 1, 1) := by decide +kernel
theorem dX1_takeAct_49 : decode cX1_takeAct 49 = .ok (.areturn, 1) := by decide +kernel
theorem dX1_refuse_0 : decode cX1_refuse 0 = .ok (.aload_n 1, 1) := by decide +kernel
theorem dX1_refuse_1 : decode cX1_refuse 1 = .ok (.iload_n 2, 1) := by decide +kernel
theorem dX1_refuse_2 : decode cX1_refuse 2 = .ok (.putfield 95, 3) := by decide +kernel
theorem dX1_refuse_5 : decode cX1_refuse 5 = .ok (.aload_n 0, 1) := by decide +kernel
theorem dX1_refuse_6 : decode cX1_refuse 6 = .ok (.getfield 44, 3) := by decide +kernel
theorem dX1_refuse_9 : decode cX1_refuse 9 = .ok (.aload_n 1, 1) := by decide +kernel
theorem dX1_refuse_10 : decode cX1_refuse 10 = .ok (.invokevirtual 78, 3) := by decide +kernel
theorem dX1_refuse_13 : decode cX1_refuse 13 = .ok (.pop, 1) := by decide +kernel
theorem dX1_refuse_14 : decode cX1_refuse 14 = .ok (.return_, 1) := by decide +kernel
theorem dX2_init_0 : decode cX2_init 0 = .ok (.aload_n 0, 1) := by decide +kernel
theorem dX2_init_1 : decode cX2_init 1 = .ok (.invokespecial 3, 3) := by decide +kernel
theorem dX2_init_4 : decode cX2_init 4 = .ok (.aload_n 0, 1) := by decide +kernel
theorem dX2_init_5 : decode cX2_init 5 = .ok (.iconst 0, 1) := by decide +kernel
theorem dX2_init_6 : decode cX2_init 6 = .ok (.putfield 9, 3) := by decide +kernel
theorem dX2_init_9 : decode cX2_init 9 = .ok (.aload_n 0, 1) := by decide +kernel
theorem dX2_init_10 : decode cX2_init 10 = .ok (.iconst 0, 1) := by decide +kernel
theorem dX2_init_11 : decode cX2_init 11 = .ok (.putfield 15, 3) := by decide +kernel
theorem dX2_init_14 : decode cX2_init 14 = .ok (.aload_n 0, 1) := by decide +kernel
theorem dX2_init_15 : decode cX2_init 15 = .ok (.iconst 0, 1) := by decide +kernel
theorem dX2_init_16 : decode cX2_init 16 = .ok (.putfield 18, 3) := by decide +kernel
theorem dX2_init_19 : decode cX2_init 19 = .ok (.aload_n 0, 1) := by decide +kernel
theorem dX2_init_20 : decode cX2_init 20 = .ok (.iconst 0, 1) := by decide +kernel
theorem dX2_init_21 : decode cX2_init 21 = .ok (.putfield 21, 3) := by decide +kernel
theorem dX2_init_24 : decode cX2_init 24 = .ok (.return_, 1) := by decide +kernel
theorem dX2_valueOf_0 : decode cX2_valueOf 0 = .ok (.iload_n 1, 1) := by decide +kernel
theorem dX2_valueOf_1 : decode cX2_valueOf 1 = .ok (.ifCond .ne 10, 3) := by decide +kernel
theorem dX2_valueOf_4 : decode cX2_valueOf 4 = .ok (.aload_n 0, 1) := by decide +kernel
theorem dX2_valueOf_5 : decode cX2_valueOf 5 = .ok (.getfield 9, 3) := by decide +kernel
theorem dX2_valueOf_8 : decode cX2_valueOf 8 = .ok (.goto 7, 3) := by decide +kernel
theorem dX2_valueOf_11 : decode cX2_valueOf 11 = .ok (.aload_n 0, 1) := by decide +kernel
theorem dX2_valueOf_12 : decode cX2_valueOf 12 = .ok (.getfield 15, 3) := by decide +kernel
theorem dX2_valueOf_15 : decode cX2_valueOf 15 = .ok (.ireturn, 1) := by decide +kernel
theorem dX2_versionOf_0 : decode cX2_versionOf 0 = .ok (.iload_n 1, 1) := by decide +kernel
theorem dX2_versionOf_1 : decode cX2_versionOf 1 = .ok (.ifCond .ne 10, 3) := by decide +kernel
theorem dX2_versionOf_4 : decode cX2_versionOf 4 = .ok (.aload_n 0, 1) := by decide +kernel
theorem dX2_versionOf_5 : decode cX2_versionOf 5 = .ok (.getfield 18, 3) := by decide +kernel
theorem dX2_versionOf_8 : decode cX2_versionOf 8 = .ok (.goto 7, 3) := by decide +kernel
theorem dX2_versionOf_11 : decode cX2_versionOf 11 = .ok (.aload_n 0, 1) := by decide +kernel
theorem dX2_versionOf_12 : decode cX2_versionOf 12 = .ok (.getfield 21, 3) := by decide +kernel
theorem dX2_versionOf_15 : decode cX2_versionOf 15 = .ok (.ireturn, 1) := by decide +kernel
theorem dX2_put_0 : decode cX2_put 0 = .ok (.iload_n 1, 1) := by decide +kernel
theorem dX2_put_1 : decode cX2_put 1 = .ok (.ifCond .ne 21, 3) := by decide +kernel
theorem dX2_put_4 : decode cX2_put 4 = .ok (.aload_n 0, 1) := by decide +kernel
theorem dX2_put_5 : decode cX2_put 5 = .ok (.iload_n 2, 1) := by decide +kernel
theorem dX2_put_6 : decode cX2_put 6 = .ok (.putfield 9, 3) := by decide +kernel
theorem dX2_put_9 : decode cX2_put 9 = .ok (.aload_n 0, 1) := by decide +kernel
theorem dX2_put_10 : decode cX2_put 10 = .ok (.dup, 1) := by decide +kernel
theorem dX2_put_11 : decode cX2_put 11 = .ok (.getfield 18, 3) := by decide +kernel
theorem dX2_put_14 : decode cX2_put 14 = .ok (.iconst 1, 1) := by decide +kernel
theorem dX2_put_15 : decode cX2_put 15 = .ok (.iadd, 1) := by decide +kernel
theorem dX2_put_16 : decode cX2_put 16 = .ok (.putfield 18, 3) := by decide +kernel
theorem dX2_put_19 : decode cX2_put 19 = .ok (.goto 18, 3) := by decide +kernel
theorem dX2_put_22 : decode cX2_put 22 = .ok (.aload_n 0, 1) := by decide +kernel
theorem dX2_put_23 : decode cX2_put 23 = .ok (.iload_n 2, 1) := by decide +kernel
theorem dX2_put_24 : decode cX2_put 24 = .ok (.putfield 15, 3) := by decide +kernel
theorem dX2_put_27 : decode cX2_put 27 = .ok (.aload_n 0, 1) := by decide +kernel
theorem dX2_put_28 : decode cX2_put 28 = .ok (.dup, 1) := by decide +kernel
theorem dX2_put_29 : decode cX2_put 29 = .ok (.getfield 21, 3) := by decide +kernel
theorem dX2_put_32 : decode cX2_put 32 = .ok (.iconst 1, 1) := by decide +kernel
theorem dX2_put_33 : decode cX2_put 33 = .ok (.iadd, 1) := by decide +kernel
theorem dX2_put_34 : decode cX2_put 34 = .ok (.putfield 21, 3) := by decide +kernel
theorem dX2_put_37 : decode cX2_put 37 = .ok (.return_, 1) := by decide +kernel
theorem dX2_copyFrom_0 : decode cX2_copyFrom 0 = .ok (.aload_n 0, 1) := by decide +kernel
theorem dX2_copyFrom_1 : decode cX2_copyFrom 1 = .ok (.aload_n 1, 1) := by decide +kernel
theorem dX2_copyFrom_2 : decode cX2_copyFrom 2 = .ok (.getfield 9, 3) := by decide +kernel
theorem dX2_copyFrom_5 : decode cX2_copyFrom 5 = .ok (.putfield 9, 3) := by decide +kernel
theorem dX2_copyFrom_8 : decode cX2_copyFrom 8 = .ok (.aload_n 0, 1) := by decide +kernel
theorem dX2_copyFrom_9 : decode cX2_copyFrom 9 = .ok (.aload_n 1, 1) := by decide +kernel
theorem dX2_copyFrom_10 : decode cX2_copyFrom 10 = .ok (.getfield 15, 3) := by decide +kernel
theorem dX2_copyFrom_13 : decode cX2_copyFrom 13 = .ok (.putfield 15, 3) := by decide +kernel
theorem dX2_copyFrom_16 : decode cX2_copyFrom 16 = .ok (.aload_n 0, 1) := by decide +kernel
theorem dX2_copyFrom_17 : decode cX2_copyFrom 17 = .ok (.aload_n 1, 1) := by decide +kernel
theorem dX2_copyFrom_18 : decode cX2_copyFrom 18 = .ok (.getfield 18, 3) := by decide +kernel
theorem dX2_copyFrom_21 : decode cX2_copyFrom 21 = .ok (.putfield 18, 3) := by decide +kernel
theorem dX2_copyFrom_24 : decode cX2_copyFrom 24 = .ok (.aload_n 0, 1) := by decide +kernel
theorem dX2_copyFrom_25 : decode cX2_copyFrom 25 = .ok (.aload_n 1, 1) := by decide +kernel
theorem dX2_copyFrom_26 : decode cX2_copyFrom 26 = .ok (.getfield 21, 3) := by decide +kernel
theorem dX2_copyFrom_29 : decode cX2_copyFrom 29 = .ok (.putfield 21, 3) := by decide +kernel
theorem dX2_copyFrom_32 : decode cX2_copyFrom 32 = .ok (.return_, 1) := by decide +kernel
theorem dX3_init_0 : decode cX3_init 0 = .ok (.aload_n 0, 1) := by decide +kernel
theorem dX3_init_1 : decode cX3_init 1 = .ok (.invokespecial 1, 3) := by decide +kernel
theorem dX3_init_4 : decode cX3_init 4 = .ok (.aload_n 0, 1) := by decide +kernel
theorem dX3_init_5 : decode cX3_init 5 = .ok (.new 7, 3) := by decide +kernel
theorem dX3_init_8 : decode cX3_init 8 = .ok (.dup, 1) := by decide +kernel
theorem dX3_init_9 : decode cX3_init 9 = .ok (.invokespecial 9, 3) := by decide +kernel
theorem dX3_init_12 : decode cX3_init 12 = .ok (.putfield 10, 3) := by decide +kernel
theorem dX3_init_15 : decode cX3_init 15 = .ok (.aload_n 0, 1) := by decide +kernel
theorem dX3_init_16 : decode cX3_init 16 = .ok (.iload_n 1, 1) := by decide +kernel
theorem dX3_init_17 : decode cX3_init 17 = .ok (.putfield 16, 3) := by decide +kernel
theorem dX3_init_20 : decode cX3_init 20 = .ok (.aload_n 0, 1) := by decide +kernel
theorem dX3_init_21 : decode cX3_init 21 = .ok (.iload_n 2, 1) := by decide +kernel
theorem dX3_init_22 : decode cX3_init 22 = .ok (.putfield 20, 3) := by decide +kernel
theorem dX3_init_25 : decode cX3_init 25 = .ok (.return_, 1) := by decide +kernel
theorem dX4_init_0 : decode cX4_init 0 = .ok (.aload_n 0, 1) := by decide +kernel
theorem dX4_init_1 : decode cX4_init 1 = .ok (.invokespecial 3, 3) := by decide +kernel
theorem dX4_init_4 : decode cX4_init 4 = .ok (.aload_n 0, 1) := by decide +kernel
theorem dX4_init_5 : decode cX4_init 5 = .ok (.iconst (-1), 1) := by decide +kernel
theorem dX4_init_6 : decode cX4_init 6 = .ok (.putfield 9, 3) := by decide +kernel
theorem dX4_init_9 : decode cX4_init 9 = .ok (.aload_n 0, 1) := by decide +kernel
theorem dX4_init_10 : decode cX4_init 10 = .ok (.new 15, 3) := by decide +kernel
theorem dX4_init_13 : decode cX4_init 13 = .ok (.dup, 1) := by decide +kernel
theorem dX4_init_14 : decode cX4_init 14 = .ok (.invokespecial 17, 3) := by decide +kernel
theorem dX4_init_17 : decode cX4_init 17 = .ok (.putfield 18, 3) := by decide +kernel
theorem dX4_init_20 : decode cX4_init 20 = .ok (.return_, 1) := by decide +kernel
theorem dX5_init_0 : decode cX5_init 0 = .ok (.aload_n 0, 1) := by decide +kernel
theorem dX5_init_1 : decode cX5_init 1 = .ok (.invokespecial 1, 3) := by decide +kernel
theorem dX5_init_4 : decode cX5_init 4 = .ok (.aload_n 0, 1) := by decide +kernel
theorem dX5_init_5 : decode cX5_init 5 = .ok (.new 7, 3) := by decide +kernel
theorem dX5_init_8 : decode cX5_init 8 = .ok (.dup, 1) := by decide +kernel
theorem dX5_init_9 : decode cX5_init 9 = .ok (.invokespecial 9, 3) := by decide +kernel
theorem dX5_init_12 : decode cX5_init 12 = .ok (.putfield 10, 3) := by decide +kernel
theorem dX5_init_15 : decode cX5_init 15 = .ok (.aload_n 0, 1) := by decide +kernel
theorem dX5_init_16 : decode cX5_init 16 = .ok (.iconst 4, 1) := by decide +kernel
theorem dX5_init_17 : decode cX5_init 17 = .ok (.anewarray 16, 3) := by decide +kernel
theorem dX5_init_20 : decode cX5_init 20 = .ok (.putfield 18, 3) := by decide +kernel
theorem dX5_init_23 : decode cX5_init 23 = .ok (.aload_n 0, 1) := by decide +kernel
theorem dX5_init_24 : decode cX5_init 24 = .ok (.iconst 0, 1) := by decide +kernel
theorem dX5_init_25 : decode cX5_init 25 = .ok (.putfield 22, 3) := by decide +kernel
theorem dX5_init_28 : decode cX5_init 28 = .ok (.iconst 0, 1) := by decide +kernel
theorem dX5_init_29 : decode cX5_init 29 = .ok (.istore_n 1, 1) := by decide +kernel
theorem dX5_init_30 : decode cX5_init 30 = .ok (.iload_n 1, 1) := by decide +kernel
theorem dX5_init_31 : decode cX5_init 31 = .ok (.iconst 4, 1) := by decide +kernel
theorem dX5_init_32 : decode cX5_init 32 = .ok (.if_icmp .ge 22, 3) := by decide +kernel
theorem dX5_init_35 : decode cX5_init 35 = .ok (.aload_n 0, 1) := by decide +kernel
theorem dX5_init_36 : decode cX5_init 36 = .ok (.getfield 18, 3) := by decide +kernel
theorem dX5_init_39 : decode cX5_init 39 = .ok (.iload_n 1, 1) := by decide +kernel
theorem dX5_init_40 : decode cX5_init 40 = .ok (.new 16, 3) := by decide +kernel
theorem dX5_init_43 : decode cX5_init 43 = .ok (.dup, 1) := by decide +kernel
theorem dX5_init_44 : decode cX5_init 44 = .ok (.invokespecial 26, 3) := by decide +kernel
theorem dX5_init_47 : decode cX5_init 47 = .ok (.aastore, 1) := by decide +kernel
theorem dX5_init_48 : decode cX5_init 48 = .ok (.iinc 1 1, 3) := by decide +kernel
theorem dX5_init_51 : decode cX5_init 51 = .ok (.goto (-21), 3) := by decide +kernel
theorem dX5_init_54 : decode cX5_init 54 = .ok (.return_, 1) := by decide +kernel
theorem dX5_add_0 : decode cX5_add 0 = .ok (.iload_n 1, 1) := by decide +kernel
theorem dX5_add_1 : decode cX5_add 1 = .ok (.iconst 0, 1) := by decide +kernel
theorem dX5_add_2 : decode cX5_add 2 = .ok (.iconst 3, 1) := by decide +kernel
theorem dX5_add_3 : decode cX5_add 3 = .ok (.invokestatic 27, 3) := by decide +kernel
theorem dX5_add_6 : decode cX5_add 6 = .ok (.iload_n 2, 1) := by decide +kernel
theorem dX5_add_7 : decode cX5_add 7 = .ok (.iconst 0, 1) := by decide +kernel
theorem dX5_add_8 : decode cX5_add 8 = .ok (.bipush 9, 2) := by decide +kernel
theorem dX5_add_10 : decode cX5_add 10 = .ok (.invokestatic 27, 3) := by decide +kernel
theorem dX5_add_13 : decode cX5_add 13 = .ok (.aload_n 0, 1) := by decide +kernel
theorem dX5_add_14 : decode cX5_add 14 = .ok (.getfield 10, 3) := by decide +kernel
theorem dX5_add_17 : decode cX5_add 17 = .ok (.invokevirtual 31, 3) := by decide +kernel
theorem dX5_add_20 : decode cX5_add 20 = .ok (.bipush 40, 2) := by decide +kernel
theorem dX5_add_22 : decode cX5_add 22 = .ok (.if_icmp .lt 13, 3) := by decide +kernel
theorem dX5_add_25 : decode cX5_add 25 = .ok (.new 35, 3) := by decide +kernel
theorem dX5_add_28 : decode cX5_add 28 = .ok (.dup, 1) := by decide +kernel
theorem dX5_add_29 : decode cX5_add 29 = .ok (.ldc 37, 2) := by decide +kernel
theorem dX5_add_31 : decode cX5_add 31 = .ok (.invokespecial 39, 3) := by decide +kernel
theorem dX5_add_34 : decode cX5_add 34 = .ok (.athrow, 1) := by decide +kernel
theorem dX5_add_35 : decode cX5_add 35 = .ok (.aload_n 0, 1) := by decide +kernel
theorem dX5_add_36 : decode cX5_add 36 = .ok (.getfield 10, 3) := by decide +kernel
theorem dX5_add_39 : decode cX5_add 39 = .ok (.new 42, 3) := by decide +kernel
theorem dX5_add_42 : decode cX5_add 42 = .ok (.dup, 1) := by decide +kernel
theorem dX5_add_43 : decode cX5_add 43 = .ok (.iload_n 1, 1) := by decide +kernel
theorem dX5_add_44 : decode cX5_add 44 = .ok (.iload_n 2, 1) := by decide +kernel
theorem dX5_add_45 : decode cX5_add 45 = .ok (.invokespecial 44, 3) := by decide +kernel
theorem dX5_add_48 : decode cX5_add 48 = .ok (.invokevirtual 47, 3) := by decide +kernel
theorem dX5_add_51 : decode cX5_add 51 = .ok (.pop, 1) := by decide +kernel
theorem dX5_add_52 : decode cX5_add 52 = .ok (.aload_n 0, 1) := by decide +kernel
theorem dX5_add_53 : decode cX5_add 53 = .ok (.getfield 10, 3) := by decide +kernel
theorem dX5_add_56 : decode cX5_add 56 = .ok (.invokevirtual 31, 3) := by decide +kernel
theorem dX5_add_59 : decode cX5_add 59 = .ok (.iconst 1, 1) := by decide +kernel
theorem dX5_add_60 : decode cX5_add 60 = .ok (.isub, 1) := by decide +kernel
theorem dX5_add_61 : decode cX5_add 61 = .ok (.ireturn, 1) := by decide +kernel
theorem dX5_give_0 : decode cX5_give 0 = .ok (.aload_n 0, 1) := by decide +kernel
theorem dX5_give_1 : decode cX5_give 1 = .ok (.iload_n 1, 1) := by decide +kernel
theorem dX5_give_2 : decode cX5_give 2 = .ok (.invokevirtual 51, 3) := by decide +kernel
theorem dX5_give_5 : decode cX5_give 5 = .ok (.astore_n 3, 1) := by decide +kernel
theorem dX5_give_6 : decode cX5_give 6 = .ok (.iload_n 2, 1) := by decide +kernel
theorem dX5_give_7 : decode cX5_give 7 = .ok (.iconst 0, 1) := by decide +kernel
theorem dX5_give_8 : decode cX5_give 8 = .ok (.iconst 3, 1) := by decide +kernel
theorem dX5_give_9 : decode cX5_give 9 = .ok (.invokestatic 27, 3) := by decide +kernel
theorem dX5_give_12 : decode cX5_give 12 = .ok (.aload_n 3, 1) := by decide +kernel
theorem dX5_give_13 : decode cX5_give 13 = .ok (.getfield 55, 3) := by decide +kernel
theorem dX5_give_16 : decode cX5_give 16 = .ok (.istore 4, 2) := by decide +kernel
theorem dX5_give_18 : decode cX5_give 18 = .ok (.aload_n 3, 1) := by decide +kernel
theorem dX5_give_19 : decode cX5_give 19 = .ok (.iload_n 2, 1) := by decide +kernel
theorem dX5_give_20 : decode cX5_give 20 = .ok (.putfield 55, 3) := by decide +kernel
theorem dX5_give_23 : decode cX5_give 23 = .ok (.iload 4, 2) := by decide +kernel
theorem dX5_give_25 : decode cX5_give 25 = .ok (.ireturn, 1) := by decide +kernel
theorem dX5_set_0 : decode cX5_set 0 = .ok (.aload_n 0, 1) := by decide +kernel
theorem dX5_set_1 : decode cX5_set 1 = .ok (.iload_n 1, 1) := by decide +kernel
theorem dX5_set_2 : decode cX5_set 2 = .ok (.invokevirtual 51, 3) := by decide +kernel
theorem dX5_set_5 : decode cX5_set 5 = .ok (.getfield 58, 3) := by decide +kernel
theorem dX5_set_8 : decode cX5_set 8 = .ok (.astore 4, 2) := by decide +kernel
theorem dX5_set_10 : decode cX5_set 10 = .ok (.iload_n 2, 1) := by decide +kernel
theorem dX5_set_11 : decode cX5_set 11 = .ok (.iload_n 3, 1) := by decide +kernel
theorem dX5_set_12 : decode cX5_set 12 = .ok (.invokestatic 62, 3) := by decide +kernel
theorem dX5_set_15 : decode cX5_set 15 = .ok (.aload 4, 2) := by decide +kernel
theorem dX5_set_17 : decode cX5_set 17 = .ok (.iload_n 2, 1) := by decide +kernel
theorem dX5_set_18 : decode cX5_set 18 = .ok (.iload_n 3, 1) := by decide +kernel
theorem dX5_set_19 : decode cX5_set 19 = .ok (.invokevirtual 65, 3) := by decide +kernel
theorem dX5_set_22 : decode cX5_set 22 = .ok (.aload 4, 2) := by decide +kernel
theorem dX5_set_24 : decode cX5_set 24 = .ok (.iload_n 2, 1) := by decide +kernel
theorem dX5_set_25 : decode cX5_set 25 = .ok (.invokevirtual 70, 3) := by decide +kernel
theorem dX5_set_28 : decode cX5_set 28 = .ok (.ireturn, 1) := by decide +kernel
theorem dX5_jobs_0 : decode cX5_jobs 0 = .ok (.aload_n 0, 1) := by decide +kernel
theorem dX5_jobs_1 : decode cX5_jobs 1 = .ok (.getfield 10, 3) := by decide +kernel
theorem dX5_jobs_4 : decode cX5_jobs 4 = .ok (.invokevirtual 31, 3) := by decide +kernel
theorem dX5_jobs_7 : decode cX5_jobs 7 = .ok (.ireturn, 1) := by decide +kernel
theorem dX5_crew_0 : decode cX5_crew 0 = .ok (.aload_n 0, 1) := by decide +kernel
theorem dX5_crew_1 : decode cX5_crew 1 = .ok (.iload_n 1, 1) := by decide +kernel
theorem dX5_crew_2 : decode cX5_crew 2 = .ok (.invokevirtual 51, 3) := by decide +kernel
theorem dX5_crew_5 : decode cX5_crew 5 = .ok (.getfield 55, 3) := by decide +kernel
theorem dX5_crew_8 : decode cX5_crew 8 = .ok (.ireturn, 1) := by decide +kernel
theorem dX5_site_0 : decode cX5_site 0 = .ok (.aload_n 0, 1) := by decide +kernel
theorem dX5_site_1 : decode cX5_site 1 = .ok (.iload_n 1, 1) := by decide +kernel
theorem dX5_site_2 : decode cX5_site 2 = .ok (.invokevirtual 51, 3) := by decide +kernel
theorem dX5_site_5 : decode cX5_site 5 = .ok (.getfield 74, 3) := by decide +kernel
theorem dX5_site_8 : decode cX5_site 8 = .ok (.ireturn, 1) := by decide +kernel
theorem dX5_value_0 : decode cX5_value 0 = .ok (.aload_n 0, 1) := by decide +kernel
theorem dX5_value_1 : decode cX5_value 1 = .ok (.iload_n 1, 1) := by decide +kernel
theorem dX5_value_2 : decode cX5_value 2 = .ok (.invokevirtual 51, 3) := by decide +kernel
theorem dX5_value_5 : decode cX5_value 5 = .ok (.getfield 58, 3) := by decide +kernel
theorem dX5_value_8 : decode cX5_value 8 = .ok (.astore_n 3, 1) := by decide +kernel
theorem dX5_value_9 : decode cX5_value 9 = .ok (.iload_n 2, 1) := by decide +kernel
theorem dX5_value_10 : decode cX5_value 10 = .ok (.invokestatic 77, 3) := by decide +kernel
theorem dX5_value_13 : decode cX5_value 13 = .ok (.aload_n 3, 1) := by decide +kernel
theorem dX5_value_14 : decode cX5_value 14 = .ok (.iload_n 2, 1) := by decide +kernel
theorem dX5_value_15 : decode cX5_value 15 = .ok (.invokevirtual 81, 3) := by decide +kernel
theorem dX5_value_18 : decode cX5_value 18 = .ok (.ireturn, 1) := by decide +kernel
theorem dX5_version_0 : decode cX5_version 0 = .ok (.aload_n 0, 1) := by decide +kernel
theorem dX5_version_1 : decode cX5_version 1 = .ok (.iload_n 1, 1) := by decide +kernel
theorem dX5_version_2 : decode cX5_version 2 = .ok (.invokevirtual 51, 3) := by decide +kernel
theorem dX5_version_5 : decode cX5_version 5 = .ok (.getfield 58, 3) := by decide +kernel
theorem dX5_version_8 : decode cX5_version 8 = .ok (.astore_n 3, 1) := by decide +kernel
theorem dX5_version_9 : decode cX5_version 9 = .ok (.iload_n 2, 1) := by decide +kernel
theorem dX5_version_10 : decode cX5_version 10 = .ok (.invokestatic 77, 3) := by decide +kernel
theorem dX5_version_13 : decode cX5_version 13 = .ok (.aload_n 3, 1) := by decide +kernel
theorem dX5_version_14 : decode cX5_version 14 = .ok (.iload_n 2, 1) := by decide +kernel
theorem dX5_version_15 : decode cX5_version 15 = .ok (.invokevirtual 70, 3) := by decide +kernel
theorem dX5_version_18 : decode cX5_version 18 = .ok (.ireturn, 1) := by decide +kernel
theorem dX5_setRoom_0 : decode cX5_setRoom 0 = .ok (.aload_n 0, 1) := by decide +kernel
theorem dX5_setRoom_1 : decode cX5_setRoom 1 = .ok (.iload_n 1, 1) := by decide +kernel
theorem dX5_setRoom_2 : decode cX5_setRoom 2 = .ok (.invokevirtual 84, 3) := by decide +kernel
theorem dX5_setRoom_5 : decode cX5_setRoom 5 = .ok (.astore_n 3, 1) := by decide +kernel
theorem dX5_setRoom_6 : decode cX5_setRoom 6 = .ok (.iload_n 2, 1) := by decide +kernel
theorem dX5_setRoom_7 : decode cX5_setRoom 7 = .ok (.iconst 0, 1) := by decide +kernel
theorem dX5_setRoom_8 : decode cX5_setRoom 8 = .ok (.bipush 40, 2) := by decide +kernel
theorem dX5_setRoom_10 : decode cX5_setRoom 10 = .ok (.invokestatic 27, 3) := by decide +kernel
theorem dX5_setRoom_13 : decode cX5_setRoom 13 = .ok (.aload_n 3, 1) := by decide +kernel
theorem dX5_setRoom_14 : decode cX5_setRoom 14 = .ok (.getfield 88, 3) := by decide +kernel
theorem dX5_setRoom_17 : decode cX5_setRoom 17 = .ok (.istore 4, 2) := by decide +kernel
theorem dX5_setRoom_19 : decode cX5_setRoom 19 = .ok (.aload_n 3, 1) := by decide +kernel
theorem dX5_setRoom_20 : decode cX5_setRoom 20 = .ok (.iload_n 2, 1) := by decide +kernel
theorem dX5_setRoom_21 : decode cX5_setRoom 21 = .ok (.putfield 88, 3) := by decide +kernel
theorem dX5_setRoom_24 : decode cX5_setRoom 24 = .ok (.iload 4, 2) := by decide +kernel
theorem dX5_setRoom_26 : decode cX5_setRoom 26 = .ok (.ireturn, 1) := by decide +kernel
theorem dX5_fetch_0 : decode cX5_fetch 0 = .ok (.aload_n 0, 1) := by decide +kernel
theorem dX5_fetch_1 : decode cX5_fetch 1 = .ok (.iload_n 1, 1) := by decide +kernel
theorem dX5_fetch_2 : decode cX5_fetch 2 = .ok (.invokevirtual 84, 3) := by decide +kernel
theorem dX5_fetch_5 : decode cX5_fetch 5 = .ok (.astore_n 2, 1) := by decide +kernel
theorem dX5_fetch_6 : decode cX5_fetch 6 = .ok (.aload_n 2, 1) := by decide +kernel
theorem dX5_fetch_7 : decode cX5_fetch 7 = .ok (.invokevirtual 91, 3) := by decide +kernel
theorem dX5_fetch_10 : decode cX5_fetch 10 = .ok (.aload_n 0, 1) := by decide +kernel
theorem dX5_fetch_11 : decode cX5_fetch 11 = .ok (.iload_n 1, 1) := by decide +kernel
theorem dX5_fetch_12 : decode cX5_fetch 12 = .ok (.aload_n 2, 1) := by decide +kernel
theorem dX5_fetch_13 : decode cX5_fetch 13 = .ok (.iconst 1, 1) := by decide +kernel
theorem dX5_fetch_14 : decode cX5_fetch 14 = .ok (.invokevirtual 94, 3) := by decide +kernel
theorem dX5_fetch_17 : decode cX5_fetch 17 = .ok (.aload_n 0, 1) := by decide +kernel
theorem dX5_fetch_18 : decode cX5_fetch 18 = .ok (.iload_n 1, 1) := by decide +kernel
theorem dX5_fetch_19 : decode cX5_fetch 19 = .ok (.aload_n 2, 1) := by decide +kernel
theorem dX5_fetch_20 : decode cX5_fetch 20 = .ok (.iconst 0, 1) := by decide +kernel
theorem dX5_fetch_21 : decode cX5_fetch 21 = .ok (.invokevirtual 94, 3) := by decide +kernel
theorem dX5_fetch_24 : decode cX5_fetch 24 = .ok (.aload_n 0, 1) := by decide +kernel
theorem dX5_fetch_25 : decode cX5_fetch 25 = .ok (.iload_n 1, 1) := by decide +kernel
theorem dX5_fetch_26 : decode cX5_fetch 26 = .ok (.aload_n 2, 1) := by decide +kernel
theorem dX5_fetch_27 : decode cX5_fetch 27 = .ok (.iconst 2, 1) := by decide +kernel
theorem dX5_fetch_28 : decode cX5_fetch 28 = .ok (.invokevirtual 94, 3) := by decide +kernel
theorem dX5_fetch_31 : decode cX5_fetch 31 = .ok (.aload_n 2, 1) := by decide +kernel
theorem dX5_fetch_32 : decode cX5_fetch 32 = .ok (.invokevirtual 98, 3) := by decide +kernel
theorem dX5_fetch_35 : decode cX5_fetch 35 = .ok (.ireturn, 1) := by decide +kernel
theorem dX5_held_0 : decode cX5_held 0 = .ok (.aload_n 0, 1) := by decide +kernel
theorem dX5_held_1 : decode cX5_held 1 = .ok (.iload_n 1, 1) := by decide +kernel
theorem dX5_held_2 : decode cX5_held 2 = .ok (.invokevirtual 84, 3) := by decide +kernel
theorem dX5_held_5 : decode cX5_held 5 = .ok (.invokevirtual 98, 3) := by decide +kernel
theorem dX5_held_8 : decode cX5_held 8 = .ok (.ireturn, 1) := by decide +kernel
theorem dX5_holds_0 : decode cX5_holds 0 = .ok (.aload_n 0, 1) := by decide +kernel
theorem dX5_holds_1 : decode cX5_holds 1 = .ok (.iload_n 1, 1) := by decide +kernel
theorem dX5_holds_2 : decode cX5_holds 2 = .ok (.invokevirtual 84, 3) := by decide +kernel
theorem dX5_holds_5 : decode cX5_holds 5 = .ok (.iload_n 2, 1) := by decide +kernel
theorem dX5_holds_6 : decode cX5_holds 6 = .ok (.invokevirtual 101, 3) := by decide +kernel
theorem dX5_holds_9 : decode cX5_holds 9 = .ok (.ifnull 7, 3) := by decide +kernel
theorem dX5_holds_12 : decode cX5_holds 12 = .ok (.iconst 1, 1) := by decide +kernel
theorem dX5_holds_13 : decode cX5_holds 13 = .ok (.goto 4, 3) := by decide +kernel
theorem dX5_holds_16 : decode cX5_holds 16 = .ok (.iconst 0, 1) := by decide +kernel
theorem dX5_holds_17 : decode cX5_holds 17 = .ok (.ireturn, 1) := by decide +kernel
theorem dX5_heldValue_0 : decode cX5_heldValue 0 = .ok (.aload_n 0, 1) := by decide +kernel
theorem dX5_heldValue_1 : decode cX5_heldValue 1 = .ok (.iload_n 1, 1) := by decide +kernel
theorem dX5_heldValue_2 : decode cX5_heldValue 2 = .ok (.invokevirtual 84, 3) := by decide +kernel
theorem dX5_heldValue_5 : decode cX5_heldValue 5 = .ok (.astore 4, 2) := by decide +kernel
theorem dX5_heldValue_7 : decode cX5_heldValue 7 = .ok (.iload_n 3, 1) := by decide +kernel
theorem dX5_heldValue_8 : decode cX5_heldValue 8 = .ok (.invokestatic 77, 3) := by decide +kernel
theorem dX5_heldValue_11 : decode cX5_heldValue 11 = .ok (.aload 4, 2) := by decide +kernel
theorem dX5_heldValue_13 : decode cX5_heldValue 13 = .ok (.iload_n 2, 1) := by decide +kernel
theorem dX5_heldValue_14 : decode cX5_heldValue 14 = .ok (.invokestatic 105, 3) := by decide +kernel
theorem dX5_heldValue_17 : decode cX5_heldValue 17 = .ok (.iload_n 3, 1) := by decide +kernel
theorem dX5_heldValue_18 : decode cX5_heldValue 18 = .ok (.invokevirtual 81, 3) := by decide +kernel
theorem dX5_heldValue_21 : decode cX5_heldValue 21 = .ok (.ireturn, 1) := by decide +kernel
theorem dX5_change_0 : decode cX5_change 0 = .ok (.aload_n 0, 1) := by decide +kernel
theorem dX5_change_1 : decode cX5_change 1 = .ok (.iload_n 1, 1) := by decide +kernel
theorem dX5_change_2 : decode cX5_change 2 = .ok (.invokevirtual 84, 3) := by decide +kernel
theorem dX5_change_5 : decode cX5_change 5 = .ok (.astore 5, 2) := by decide +kernel
theorem dX5_change_7 : decode cX5_change 7 = .ok (.iload_n 3, 1) := by decide +kernel
theorem dX5_change_8 : decode cX5_change 8 = .ok (.iload 4, 2) := by decide +kernel
theorem dX5_change_10 : decode cX5_change 10 = .ok (.invokestatic 62, 3) := by decide +kernel
theorem dX5_change_13 : decode cX5_change 13 = .ok (.aload 5, 2) := by decide +kernel
theorem dX5_change_15 : decode cX5_change 15 = .ok (.iload_n 2, 1) := by decide +kernel
theorem dX5_change_16 : decode cX5_change 16 = .ok (.invokestatic 105, 3) := by decide +kernel
theorem dX5_change_19 : decode cX5_change 19 = .ok (.astore 6, 2) := by decide +kernel
theorem dX5_change_21 : decode cX5_change 21 = .ok (.aload 5, 2) := by decide +kernel
theorem dX5_change_23 : decode cX5_change 23 = .ok (.invokevirtual 109, 3) := by decide +kernel
theorem dX5_change_26 : decode cX5_change 26 = .ok (.ifCond .eq 14, 3) := by decide +kernel
theorem dX5_change_29 : decode cX5_change 29 = .ok (.aload 5, 2) := by decide +kernel
theorem dX5_change_31 : decode cX5_change 31 = .ok (.iload_n 2, 1) := by decide +kernel
theorem dX5_change_32 : decode cX5_change 32 = .ok (.aload 6, 2) := by decide +kernel
theorem dX5_change_34 : decode cX5_change 34 = .ok (.iload_n 3, 1) := by decide +kernel
theorem dX5_change_35 : decode cX5_change 35 = .ok (.iload 4, 2) := by decide +kernel
theorem dX5_change_37 : decode cX5_change 37 = .ok (.invokevirtual 113, 3) := by decide +kernel
theorem dX5_change_40 : decode cX5_change 40 = .ok (.aload 5, 2) := by decide +kernel
theorem dX5_change_42 : decode cX5_change 42 = .ok (.invokevirtual 117, 3) := by decide +kernel
theorem dX5_change_45 : decode cX5_change 45 = .ok (.ireturn, 1) := by decide +kernel
theorem dX5_make_0 : decode cX5_make 0 = .ok (.aload_n 0, 1) := by decide +kernel
theorem dX5_make_1 : decode cX5_make 1 = .ok (.iload_n 1, 1) := by decide +kernel
theorem dX5_make_2 : decode cX5_make 2 = .ok (.invokevirtual 84, 3) := by decide +kernel
theorem dX5_make_5 : decode cX5_make 5 = .ok (.astore_n 3, 1) := by decide +kernel
theorem dX5_make_6 : decode cX5_make 6 = .ok (.iload_n 2, 1) := by decide +kernel
theorem dX5_make_7 : decode cX5_make 7 = .ok (.iconst 0, 1) := by decide +kernel
theorem dX5_make_8 : decode cX5_make 8 = .ok (.bipush 9, 2) := by decide +kernel
theorem dX5_make_10 : decode cX5_make 10 = .ok (.invokestatic 27, 3) := by decide +kernel
theorem dX5_make_13 : decode cX5_make 13 = .ok (.aload_n 3, 1) := by decide +kernel
theorem dX5_make_14 : decode cX5_make 14 = .ok (.invokevirtual 109, 3) := by decide +kernel
theorem dX5_make_17 : decode cX5_make 17 = .ok (.ifCond .ne 5, 3) := by decide +kernel
theorem dX5_make_20 : decode cX5_make 20 = .ok (.iconst (-1), 1) := by decide +kernel
theorem dX5_make_21 : decode cX5_make 21 = .ok (.ireturn, 1) := by decide +kernel
theorem dX5_make_22 : decode cX5_make 22 = .ok (.aload_n 3, 1) := by decide +kernel
theorem dX5_make_23 : decode cX5_make 23 = .ok (.iload_n 2, 1) := by decide +kernel
theorem dX5_make_24 : decode cX5_make 24 = .ok (.invokevirtual 120, 3) := by decide +kernel
theorem dX5_make_27 : decode cX5_make 27 = .ok (.ireturn, 1) := by decide +kernel
theorem dX5_numberOf_0 : decode cX5_numberOf 0 = .ok (.aload_n 0, 1) := by decide +kernel
theorem dX5_numberOf_1 : decode cX5_numberOf 1 = .ok (.iload_n 1, 1) := by decide +kernel
theorem dX5_numberOf_2 : decode cX5_numberOf 2 = .ok (.invokevirtual 84, 3) := by decide +kernel
theorem dX5_numberOf_5 : decode cX5_numberOf 5 = .ok (.iload_n 2, 1) := by decide +kernel
theorem dX5_numberOf_6 : decode cX5_numberOf 6 = .ok (.invokevirtual 123, 3) := by decide +kernel
theorem dX5_numberOf_9 : decode cX5_numberOf 9 = .ok (.astore_n 3, 1) := by decide +kernel
theorem dX5_numberOf_10 : decode cX5_numberOf 10 = .ok (.aload_n 3, 1) := by decide +kernel
theorem dX5_numberOf_11 : decode cX5_numberOf 11 = .ok (.ifnonnull 13, 3) := by decide +kernel
theorem dX5_numberOf_14 : decode cX5_numberOf 14 = .ok (.new 127, 3) := by decide +kernel
theorem dX5_numberOf_17 : decode cX5_numberOf 17 = .ok (.dup, 1) := by decide +kernel
theorem dX5_numberOf_18 : decode cX5_numberOf 18 = .ok (.ldc 129, 2) := by decide +kernel
theorem dX5_numberOf_20 : decode cX5_numberOf 20 = .ok (.invokespecial 131, 3) := by decide +kernel
theorem dX5_numberOf_23 : decode cX5_numberOf 23 = .ok (.athrow, 1) := by decide +kernel
theorem dX5_numberOf_24 : decode cX5_numberOf 24 = .ok (.aload_n 3, 1) := by decide +kernel
theorem dX5_numberOf_25 : decode cX5_numberOf 25 = .ok (.getfield 132, 3) := by decide +kernel
theorem dX5_numberOf_28 : decode cX5_numberOf 28 = .ok (.ireturn, 1) := by decide +kernel
theorem dX5_send_0 : decode cX5_send 0 = .ok (.aload_n 0, 1) := by decide +kernel
theorem dX5_send_1 : decode cX5_send 1 = .ok (.iload_n 1, 1) := by decide +kernel
theorem dX5_send_2 : decode cX5_send 2 = .ok (.invokevirtual 84, 3) := by decide +kernel
theorem dX5_send_5 : decode cX5_send 5 = .ok (.astore_n 3, 1) := by decide +kernel
theorem dX5_send_6 : decode cX5_send 6 = .ok (.iload_n 2, 1) := by decide +kernel
theorem dX5_send_7 : decode cX5_send 7 = .ok (.iconst 1, 1) := by decide +kernel
theorem dX5_send_8 : decode cX5_send 8 = .ok (.bipush 100, 2) := by decide +kernel
theorem dX5_send_10 : decode cX5_send 10 = .ok (.invokestatic 27, 3) := by decide +kernel
theorem dX5_send_13 : decode cX5_send 13 = .ok (.iconst 0, 1) := by decide +kernel
theorem dX5_send_14 : decode cX5_send 14 = .ok (.istore 4, 2) := by decide +kernel
theorem dX5_send_16 : decode cX5_send 16 = .ok (.iconst 0, 1) := by decide +kernel
theorem dX5_send_17 : decode cX5_send 17 = .ok (.istore 5, 2) := by decide +kernel
theorem dX5_send_19 : decode cX5_send 19 = .ok (.iload 5, 2) := by decide +kernel
theorem dX5_send_21 : decode cX5_send 21 = .ok (.iload_n 2, 1) := by decide +kernel
theorem dX5_send_22 : decode cX5_send 22 = .ok (.if_icmp .ge 53, 3) := by decide +kernel
theorem dX5_send_25 : decode cX5_send 25 = .ok (.aload_n 3, 1) := by decide +kernel
theorem dX5_send_26 : decode cX5_send 26 = .ok (.invokevirtual 137, 3) := by decide +kernel
theorem dX5_send_29 : decode cX5_send 29 = .ok (.astore 6, 2) := by decide +kernel
theorem dX5_send_31 : decode cX5_send 31 = .ok (.aload 6, 2) := by decide +kernel
theorem dX5_send_33 : decode cX5_send 33 = .ok (.ifnonnull 6, 3) := by decide +kernel
theorem dX5_send_36 : decode cX5_send 36 = .ok (.goto 39, 3) := by decide +kernel
theorem dX5_send_39 : decode cX5_send 39 = .ok (.aload_n 0, 1) := by decide +kernel
theorem dX5_send_40 : decode cX5_send 40 = .ok (.iload_n 1, 1) := by decide +kernel
theorem dX5_send_41 : decode cX5_send 41 = .ok (.aload_n 3, 1) := by decide +kernel
theorem dX5_send_42 : decode cX5_send 42 = .ok (.aload 6, 2) := by decide +kernel
theorem dX5_send_44 : decode cX5_send 44 = .ok (.invokevirtual 141, 3) := by decide +kernel
theorem dX5_send_47 : decode cX5_send 47 = .ok (.istore 7, 2) := by decide +kernel
theorem dX5_send_49 : decode cX5_send 49 = .ok (.iload 7, 2) := by decide +kernel
theorem dX5_send_51 : decode cX5_send 51 = .ok (.iconst (-1), 1) := by decide +kernel
theorem dX5_send_52 : decode cX5_send 52 = .ok (.if_icmp .ne 9, 3) := by decide +kernel
theorem dX5_send_55 : decode cX5_send 55 = .ok (.iinc 4 1, 3) := by decide +kernel
theorem dX5_send_58 : decode cX5_send 58 = .ok (.goto 11, 3) := by decide +kernel
theorem dX5_send_61 : decode cX5_send 61 = .ok (.aload_n 3, 1) := by decide +kernel
theorem dX5_send_62 : decode cX5_send 62 = .ok (.aload 6, 2) := by decide +kernel
theorem dX5_send_64 : decode cX5_send 64 = .ok (.iload 7, 2) := by decide +kernel
theorem dX5_send_66 : decode cX5_send 66 = .ok (.invokevirtual 145, 3) := by decide +kernel
theorem dX5_send_69 : decode cX5_send 69 = .ok (.iinc 5 1, 3) := by decide +kernel
theorem dX5_send_72 : decode cX5_send 72 = .ok (.goto (-53), 3) := by decide +kernel
theorem dX5_send_75 : decode cX5_send 75 = .ok (.aload_n 0, 1) := by decide +kernel
theorem dX5_send_76 : decode cX5_send 76 = .ok (.dup, 1) := by decide +kernel
theorem dX5_send_77 : decode cX5_send 77 = .ok (.getfield 22, 3) := by decide +kernel
theorem dX5_send_80 : decode cX5_send 80 = .ok (.iload 4, 2) := by decide +kernel
theorem dX5_send_82 : decode cX5_send 82 = .ok (.iadd, 1) := by decide +kernel
theorem dX5_send_83 : decode cX5_send 83 = .ok (.putfield 22, 3) := by decide +kernel
theorem dX5_send_86 : decode cX5_send 86 = .ok (.iload 4, 2) := by decide +kernel
theorem dX5_send_88 : decode cX5_send 88 = .ok (.ireturn, 1) := by decide +kernel
theorem dX5_waiting_0 : decode cX5_waiting 0 = .ok (.aload_n 0, 1) := by decide +kernel
theorem dX5_waiting_1 : decode cX5_waiting 1 = .ok (.iload_n 1, 1) := by decide +kernel
theorem dX5_waiting_2 : decode cX5_waiting 2 = .ok (.invokevirtual 84, 3) := by decide +kernel
theorem dX5_waiting_5 : decode cX5_waiting 5 = .ok (.invokevirtual 117, 3) := by decide +kernel
theorem dX5_waiting_8 : decode cX5_waiting 8 = .ok (.ireturn, 1) := by decide +kernel
theorem dX5_pile_0 : decode cX5_pile 0 = .ok (.aload_n 0, 1) := by decide +kernel
theorem dX5_pile_1 : decode cX5_pile 1 = .ok (.iload_n 1, 1) := by decide +kernel
theorem dX5_pile_2 : decode cX5_pile 2 = .ok (.invokevirtual 84, 3) := by decide +kernel
theorem dX5_pile_5 : decode cX5_pile 5 = .ok (.getfield 149, 3) := by decide +kernel
theorem dX5_pile_8 : decode cX5_pile 8 = .ok (.invokevirtual 31, 3) := by decide +kernel
theorem dX5_pile_11 : decode cX5_pile 11 = .ok (.ireturn, 1) := by decide +kernel
theorem dX5_reason_0 : decode cX5_reason 0 = .ok (.aload_n 0, 1) := by decide +kernel
theorem dX5_reason_1 : decode cX5_reason 1 = .ok (.iload_n 1, 1) := by decide +kernel
theorem dX5_reason_2 : decode cX5_reason 2 = .ok (.iload_n 2, 1) := by decide +kernel
theorem dX5_reason_3 : decode cX5_reason 3 = .ok (.invokevirtual 152, 3) := by decide +kernel
theorem dX5_reason_6 : decode cX5_reason 6 = .ok (.getfield 156, 3) := by decide +kernel
theorem dX5_reason_9 : decode cX5_reason 9 = .ok (.ireturn, 1) := by decide +kernel
theorem dX5_refusedValue_0 : decode cX5_refusedValue 0 = .ok (.aload_n 0, 1) := by decide +kernel
theorem dX5_refusedValue_1 : decode cX5_refusedValue 1 = .ok (.iload_n 1, 1) := by decide +kernel
theorem dX5_refusedValue_2 : decode cX5_refusedValue 2 = .ok (.iload_n 2, 1) := by decide +kernel
theorem dX5_refusedValue_3 : decode cX5_refusedValue 3 = .ok (.invokevirtual 152, 3) := by decide +kernel
theorem dX5_refusedValue_6 : decode cX5_refusedValue 6 = .ok (.getfield 161, 3) := by decide +kernel
theorem dX5_refusedValue_9 : decode cX5_refusedValue 9 = .ok (.ireturn, 1) := by decide +kernel
theorem dX5_done_0 : decode cX5_done 0 = .ok (.aload_n 0, 1) := by decide +kernel
theorem dX5_done_1 : decode cX5_done 1 = .ok (.getfield 22, 3) := by decide +kernel
theorem dX5_done_4 : decode cX5_done 4 = .ok (.ireturn, 1) := by decide +kernel
theorem dX5_copyJobs_0 : decode cX5_copyJobs 0 = .ok (.iconst 0, 1) := by decide +kernel
theorem dX5_copyJobs_1 : decode cX5_copyJobs 1 = .ok (.istore 4, 2) := by decide +kernel
theorem dX5_copyJobs_3 : decode cX5_copyJobs 3 = .ok (.iload 4, 2) := by decide +kernel
theorem dX5_copyJobs_5 : decode cX5_copyJobs 5 = .ok (.aload_n 0, 1) := by decide +kernel
theorem dX5_copyJobs_6 : decode cX5_copyJobs 6 = .ok (.getfield 10, 3) := by decide +kernel
theorem dX5_copyJobs_9 : decode cX5_copyJobs 9 = .ok (.invokevirtual 31, 3) := by decide +kernel
theorem dX5_copyJobs_12 : decode cX5_copyJobs 12 = .ok (.if_icmp .ge 66, 3) := by decide +kernel
theorem dX5_copyJobs_15 : decode cX5_copyJobs 15 = .ok (.aload_n 0, 1) := by decide +kernel
theorem dX5_copyJobs_16 : decode cX5_copyJobs 16 = .ok (.getfield 10, 3) := by decide +kernel
theorem dX5_copyJobs_19 : decode cX5_copyJobs 19 = .ok (.iload 4, 2) := by decide +kernel
theorem dX5_copyJobs_21 : decode cX5_copyJobs 21 = .ok (.invokevirtual 164, 3) := by decide +kernel
theorem dX5_copyJobs_24 : decode cX5_copyJobs 24 = .ok (.checkcast 42, 3) := by decide +kernel
theorem dX5_copyJobs_27 : decode cX5_copyJobs 27 = .ok (.astore 5, 2) := by decide +kernel
theorem dX5_copyJobs_29 : decode cX5_copyJobs 29 = .ok (.aload_n 2, 1) := by decide +kernel
theorem dX5_copyJobs_30 : decode cX5_copyJobs 30 = .ok (.getfield 168, 3) := by decide +kernel
theorem dX5_copyJobs_33 : decode cX5_copyJobs 33 = .ok (.aload_n 2, 1) := by decide +kernel
theorem dX5_copyJobs_34 : decode cX5_copyJobs 34 = .ok (.getfield 88, 3) := by decide +kernel
theorem dX5_copyJobs_37 : decode cX5_copyJobs 37 = .ok (.if_icmp .ge 35, 3) := by decide +kernel
theorem dX5_copyJobs_40 : decode cX5_copyJobs 40 = .ok (.aload 5, 2) := by decide +kernel
theorem dX5_copyJobs_42 : decode cX5_copyJobs 42 = .ok (.getfield 55, 3) := by decide +kernel
theorem dX5_copyJobs_45 : decode cX5_copyJobs 45 = .ok (.iload_n 1, 1) := by decide +kernel
theorem dX5_copyJobs_46 : decode cX5_copyJobs 46 = .ok (.if_icmp .ne 26, 3) := by decide +kernel
theorem dX5_copyJobs_49 : decode cX5_copyJobs 49 = .ok (.aload 5, 2) := by decide +kernel
theorem dX5_copyJobs_51 : decode cX5_copyJobs 51 = .ok (.getfield 58, 3) := by decide +kernel
theorem dX5_copyJobs_54 : decode cX5_copyJobs 54 = .ok (.getfield 171, 3) := by decide +kernel
theorem dX5_copyJobs_57 : decode cX5_copyJobs 57 = .ok (.iload_n 3, 1) := by decide +kernel
theorem dX5_copyJobs_58 : decode cX5_copyJobs 58 = .ok (.if_icmp .ne 14, 3) := by decide +kernel
theorem dX5_copyJobs_61 : decode cX5_copyJobs 61 = .ok (.aload_n 2, 1) := by decide +kernel
theorem dX5_copyJobs_62 : decode cX5_copyJobs 62 = .ok (.iload 4, 2) := by decide +kernel
theorem dX5_copyJobs_64 : decode cX5_copyJobs 64 = .ok (.aload 5, 2) := by decide +kernel
theorem dX5_copyJobs_66 : decode cX5_copyJobs 66 = .ok (.getfield 58, 3) := by decide +kernel
theorem dX5_copyJobs_69 : decode cX5_copyJobs 69 = .ok (.invokevirtual 174, 3) := by decide +kernel
theorem dX5_copyJobs_72 : decode cX5_copyJobs 72 = .ok (.iinc 4 1, 3) := by decide +kernel
theorem dX5_copyJobs_75 : decode cX5_copyJobs 75 = .ok (.goto (-72), 3) := by decide +kernel
theorem dX5_copyJobs_78 : decode cX5_copyJobs 78 = .ok (.return_, 1) := by decide +kernel
theorem dX5_deliver_0 : decode cX5_deliver 0 = .ok (.aload_n 3, 1) := by decide +kernel
theorem dX5_deliver_1 : decode cX5_deliver 1 = .ok (.getfield 178, 3) := by decide +kernel
theorem dX5_deliver_4 : decode cX5_deliver 4 = .ok (.iconst (-1), 1) := by decide +kernel
theorem dX5_deliver_5 : decode cX5_deliver 5 = .ok (.if_icmp .ne 13, 3) := by decide +kernel
theorem dX5_deliver_8 : decode cX5_deliver 8 = .ok (.aload_n 0, 1) := by decide +kernel
theorem dX5_deliver_9 : decode cX5_deliver 9 = .ok (.iload_n 1, 1) := by decide +kernel
theorem dX5_deliver_10 : decode cX5_deliver 10 = .ok (.aload_n 2, 1) := by decide +kernel
theorem dX5_deliver_11 : decode cX5_deliver 11 = .ok (.aload_n 3, 1) := by decide +kernel
theorem dX5_deliver_12 : decode cX5_deliver 12 = .ok (.invokevirtual 181, 3) := by decide +kernel
theorem dX5_deliver_15 : decode cX5_deliver 15 = .ok (.goto 10, 3) := by decide +kernel
theorem dX5_deliver_18 : decode cX5_deliver 18 = .ok (.aload_n 0, 1) := by decide +kernel
theorem dX5_deliver_19 : decode cX5_deliver 19 = .ok (.iload_n 1, 1) := by decide +kernel
theorem dX5_deliver_20 : decode cX5_deliver 20 = .ok (.aload_n 2, 1) := by decide +kernel
theorem dX5_deliver_21 : decode cX5_deliver 21 = .ok (.aload_n 3, 1) := by decide +kernel
theorem dX5_deliver_22 : decode cX5_deliver 22 = .ok (.invokevirtual 184, 3) := by decide +kernel
theorem dX5_deliver_25 : decode cX5_deliver 25 = .ok (.ireturn, 1) := by decide +kernel
theorem dX5_deliverMaking_0 : decode cX5_deliverMaking 0 = .ok (.aload_n 2, 1) := by decide +kernel
theorem dX5_deliverMaking_1 : decode cX5_deliverMaking 1 = .ok (.aload_n 3, 1) := by decide +kernel
theorem dX5_deliverMaking_2 : decode cX5_deliverMaking 2 = .ok (.getfield 187, 3) := by decide +kernel
theorem dX5_deliverMaking_5 : decode cX5_deliverMaking 5 = .ok (.invokevirtual 123, 3) := by decide +kernel
theorem dX5_deliverMaking_8 : decode cX5_deliverMaking 8 = .ok (.astore 4, 2) := by decide +kernel
theorem dX5_deliverMaking_10 : decode cX5_deliverMaking 10 = .ok (.aload 4, 2) := by decide +kernel
theorem dX5_deliverMaking_12 : decode cX5_deliverMaking 12 = .ok (.ifnull 15, 3) := by decide +kernel
theorem dX5_deliverMaking_15 : decode cX5_deliverMaking 15 = .ok (.aload_n 0, 1) := by decide +kernel
theorem dX5_deliverMaking_16 : decode cX5_deliverMaking 16 = .ok (.getfield 10, 3) := by decide +kernel
theorem dX5_deliverMaking_19 : decode cX5_deliverMaking 19 = .ok (.invokevirtual 31, 3) := by decide +kernel
theorem dX5_deliverMaking_22 : decode cX5_deliverMaking 22 = .ok (.bipush 40, 2) := by decide +kernel
theorem dX5_deliverMaking_24 : decode cX5_deliverMaking 24 = .ok (.if_icmp .lt 5, 3) := by decide +kernel
theorem dX5_deliverMaking_27 : decode cX5_deliverMaking 27 = .ok (.iconst 3, 1) := by decide +kernel
theorem dX5_deliverMaking_28 : decode cX5_deliverMaking 28 = .ok (.ireturn, 1) := by decide +kernel
theorem dX5_deliverMaking_29 : decode cX5_deliverMaking 29 = .ok (.aload_n 2, 1) := by decide +kernel
theorem dX5_deliverMaking_30 : decode cX5_deliverMaking 30 = .ok (.aload 4, 2) := by decide +kernel
theorem dX5_deliverMaking_32 : decode cX5_deliverMaking 32 = .ok (.aload_n 0, 1) := by decide +kernel
theorem dX5_deliverMaking_33 : decode cX5_deliverMaking 33 = .ok (.getfield 10, 3) := by decide +kernel
theorem dX5_deliverMaking_36 : decode cX5_deliverMaking 36 = .ok (.invokevirtual 31, 3) := by decide +kernel
theorem dX5_deliverMaking_39 : decode cX5_deliverMaking 39 = .ok (.invokevirtual 190, 3) := by decide +kernel
theorem dX5_deliverMaking_42 : decode cX5_deliverMaking 42 = .ok (.aload_n 0, 1) := by decide +kernel
theorem dX5_deliverMaking_43 : decode cX5_deliverMaking 43 = .ok (.getfield 10, 3) := by decide +kernel
theorem dX5_deliverMaking_46 : decode cX5_deliverMaking 46 = .ok (.new 42, 3) := by decide +kernel
theorem dX5_deliverMaking_49 : decode cX5_deliverMaking 49 = .ok (.dup, 1) := by decide +kernel
theorem dX5_deliverMaking_50 : decode cX5_deliverMaking 50 = .ok (.iload_n 1, 1) := by decide +kernel
theorem dX5_deliverMaking_51 : decode cX5_deliverMaking 51 = .ok (.aload_n 3, 1) := by decide +kernel
theorem dX5_deliverMaking_52 : decode cX5_deliverMaking 52 = .ok (.getfield 161, 3) := by decide +kernel
theorem dX5_deliverMaking_55 : decode cX5_deliverMaking 55 = .ok (.invokespecial 44, 3) := by decide +kernel
theorem dX5_deliverMaking_58 : decode cX5_deliverMaking 58 = .ok (.invokevirtual 47, 3) := by decide +kernel
theorem dX5_deliverMaking_61 : decode cX5_deliverMaking 61 = .ok (.pop, 1) := by decide +kernel
theorem dX5_deliverMaking_62 : decode cX5_deliverMaking 62 = .ok (.iconst (-1), 1) := by decide +kernel
theorem dX5_deliverMaking_63 : decode cX5_deliverMaking 63 = .ok (.ireturn, 1) := by decide +kernel
theorem dX5_deliverChange_0 : decode cX5_deliverChange 0 = .ok (.aload_n 2, 1) := by decide +kernel
theorem dX5_deliverChange_1 : decode cX5_deliverChange 1 = .ok (.aload_n 3, 1) := by decide +kernel
theorem dX5_deliverChange_2 : decode cX5_deliverChange 2 = .ok (.getfield 187, 3) := by decide +kernel
theorem dX5_deliverChange_5 : decode cX5_deliverChange 5 = .ok (.invokevirtual 194, 3) := by decide +kernel
theorem dX5_deliverChange_8 : decode cX5_deliverChange 8 = .ok (.istore 4, 2) := by decide +kernel
theorem dX5_deliverChange_10 : decode cX5_deliverChange 10 = .ok (.iload 4, 2) := by decide +kernel
theorem dX5_deliverChange_12 : decode cX5_deliverChange 12 = .ok (.ifCond .lt 15, 3) := by decide +kernel
theorem dX5_deliverChange_15 : decode cX5_deliverChange 15 = .ok (.iload 4, 2) := by decide +kernel
theorem dX5_deliverChange_17 : decode cX5_deliverChange 17 = .ok (.aload_n 0, 1) := by decide +kernel
theorem dX5_deliverChange_18 : decode cX5_deliverChange 18 = .ok (.getfield 10, 3) := by decide +kernel
theorem dX5_deliverChange_21 : decode cX5_deliverChange 21 = .ok (.invokevirtual 31, 3) := by decide +kernel
theorem dX5_deliverChange_24 : decode cX5_deliverChange 24 = .ok (.if_icmp .lt 5, 3) := by decide +kernel
theorem dX5_deliverChange_27 : decode cX5_deliverChange 27 = .ok (.iconst 3, 1) := by decide +kernel
theorem dX5_deliverChange_28 : decode cX5_deliverChange 28 = .ok (.ireturn, 1) := by decide +kernel
theorem dX5_deliverChange_29 : decode cX5_deliverChange 29 = .ok (.aload_n 0, 1) := by decide +kernel
theorem dX5_deliverChange_30 : decode cX5_deliverChange 30 = .ok (.getfield 10, 3) := by decide +kernel
theorem dX5_deliverChange_33 : decode cX5_deliverChange 33 = .ok (.iload 4, 2) := by decide +kernel
theorem dX5_deliverChange_35 : decode cX5_deliverChange 35 = .ok (.invokevirtual 164, 3) := by decide +kernel
theorem dX5_deliverChange_38 : decode cX5_deliverChange 38 = .ok (.checkcast 42, 3) := by decide +kernel
theorem dX5_deliverChange_41 : decode cX5_deliverChange 41 = .ok (.astore 5, 2) := by decide +kernel
theorem dX5_deliverChange_43 : decode cX5_deliverChange 43 = .ok (.aload 5, 2) := by decide +kernel
theorem dX5_deliverChange_45 : decode cX5_deliverChange 45 = .ok (.getfield 55, 3) := by decide +kernel
theorem dX5_deliverChange_48 : decode cX5_deliverChange 48 = .ok (.iload_n 1, 1) := by decide +kernel
theorem dX5_deliverChange_49 : decode cX5_deliverChange 49 = .ok (.if_icmp .eq 5, 3) := by decide +kernel
theorem dX5_deliverChange_52 : decode cX5_deliverChange 52 = .ok (.iconst 0, 1) := by decide +kernel
theorem dX5_deliverChange_53 : decode cX5_deliverChange 53 = .ok (.ireturn, 1) := by decide +kernel
theorem dX5_deliverChange_54 : decode cX5_deliverChange 54 = .ok (.aload 5, 2) := by decide +kernel
theorem dX5_deliverChange_56 : decode cX5_deliverChange 56 = .ok (.getfield 58, 3) := by decide +kernel
theorem dX5_deliverChange_59 : decode cX5_deliverChange 59 = .ok (.aload_n 3, 1) := by decide +kernel
theorem dX5_deliverChange_60 : decode cX5_deliverChange 60 = .ok (.getfield 178, 3) := by decide +kernel
theorem dX5_deliverChange_63 : decode cX5_deliverChange 63 = .ok (.invokevirtual 70, 3) := by decide +kernel
theorem dX5_deliverChange_66 : decode cX5_deliverChange 66 = .ok (.aload_n 3, 1) := by decide +kernel
theorem dX5_deliverChange_67 : decode cX5_deliverChange 67 = .ok (.getfield 197, 3) := by decide +kernel
theorem dX5_deliverChange_70 : decode cX5_deliverChange 70 = .ok (.if_icmp .eq 5, 3) := by decide +kernel
theorem dX5_deliverChange_73 : decode cX5_deliverChange 73 = .ok (.iconst 1, 1) := by decide +kernel
theorem dX5_deliverChange_74 : decode cX5_deliverChange 74 = .ok (.ireturn, 1) := by decide +kernel
theorem dX5_deliverChange_75 : decode cX5_deliverChange 75 = .ok (.aload_n 3, 1) := by decide +kernel
theorem dX5_deliverChange_76 : decode cX5_deliverChange 76 = .ok (.getfield 178, 3) := by decide +kernel
theorem dX5_deliverChange_79 : decode cX5_deliverChange 79 = .ok (.ifCond .ne 23, 3) := by decide +kernel
theorem dX5_deliverChange_82 : decode cX5_deliverChange 82 = .ok (.aload 5, 2) := by decide +kernel
theorem dX5_deliverChange_84 : decode cX5_deliverChange 84 = .ok (.getfield 58, 3) := by decide +kernel
theorem dX5_deliverChange_87 : decode cX5_deliverChange 87 = .ok (.getfield 171, 3) := by decide +kernel
theorem dX5_deliverChange_90 : decode cX5_deliverChange 90 = .ok (.aload_n 3, 1) := by decide +kernel
theorem dX5_deliverChange_91 : decode cX5_deliverChange 91 = .ok (.getfield 161, 3) := by decide +kernel
theorem dX5_deliverChange_94 : decode cX5_deliverChange 94 = .ok (.invokestatic 200, 3) := by decide +kernel
theorem dX5_deliverChange_97 : decode cX5_deliverChange 97 = .ok (.ifCond .ne 5, 3) := by decide +kernel
theorem dX5_deliverChange_100 : decode cX5_deliverChange 100 = .ok (.iconst 2, 1) := by decide +kernel
theorem dX5_deliverChange_101 : decode cX5_deliverChange 101 = .ok (.ireturn, 1) := by decide +kernel
theorem dX5_deliverChange_102 : decode cX5_deliverChange 102 = .ok (.aload 5, 2) := by decide +kernel
theorem dX5_deliverChange_104 : decode cX5_deliverChange 104 = .ok (.getfield 58, 3) := by decide +kernel
theorem dX5_deliverChange_107 : decode cX5_deliverChange 107 = .ok (.aload_n 3, 1) := by decide +kernel
theorem dX5_deliverChange_108 : decode cX5_deliverChange 108 = .ok (.getfield 178, 3) := by decide +kernel
theorem dX5_deliverChange_111 : decode cX5_deliverChange 111 = .ok (.aload_n 3, 1) := by decide +kernel
theorem dX5_deliverChange_112 : decode cX5_deliverChange 112 = .ok (.getfield 161, 3) := by decide +kernel
theorem dX5_deliverChange_115 : decode cX5_deliverChange 115 = .ok (.invokevirtual 65, 3) := by decide +kernel
theorem dX5_deliverChange_118 : decode cX5_deliverChange 118 = .ok (.iconst (-1), 1) := by decide +kernel
theorem dX5_deliverChange_119 : decode cX5_deliverChange 119 = .ok (.ireturn, 1) := by decide +kernel
theorem dX5_isStep_0 : decode cX5_isStep 0 = .ok (.iload_n 0, 1) := by decide +kernel
theorem dX5_isStep_1 : decode cX5_isStep 1 = .ok (.ifCond .ne 8, 3) := by decide +kernel
theorem dX5_isStep_4 : decode cX5_isStep 4 = .ok (.iload_n 1, 1) := by decide +kernel
theorem dX5_isStep_5 : decode cX5_isStep 5 = .ok (.iconst 1, 1) := by decide +kernel
theorem dX5_isStep_6 : decode cX5_isStep 6 = .ok (.if_icmp .eq 13, 3) := by decide +kernel
theorem dX5_isStep_9 : decode cX5_isStep 9 = .ok (.iload_n 0, 1) := by decide +kernel
theorem dX5_isStep_10 : decode cX5_isStep 10 = .ok (.iconst 1, 1) := by decide +kernel
theorem dX5_isStep_11 : decode cX5_isStep 11 = .ok (.if_icmp .ne 12, 3) := by decide +kernel
theorem dX5_isStep_14 : decode cX5_isStep 14 = .ok (.iload_n 1, 1) := by decide +kernel
theorem dX5_isStep_15 : decode cX5_isStep 15 = .ok (.iconst 2, 1) := by decide +kernel
theorem dX5_isStep_16 : decode cX5_isStep 16 = .ok (.if_icmp .ne 7, 3) := by decide +kernel
theorem dX5_isStep_19 : decode cX5_isStep 19 = .ok (.iconst 1, 1) := by decide +kernel
theorem dX5_isStep_20 : decode cX5_isStep 20 = .ok (.goto 4, 3) := by decide +kernel
theorem dX5_isStep_23 : decode cX5_isStep 23 = .ok (.iconst 0, 1) := by decide +kernel
theorem dX5_isStep_24 : decode cX5_isStep 24 = .ok (.ireturn, 1) := by decide +kernel
theorem dX5_jobAt_0 : decode cX5_jobAt 0 = .ok (.iload_n 1, 1) := by decide +kernel
theorem dX5_jobAt_1 : decode cX5_jobAt 1 = .ok (.ifCond .lt 14, 3) := by decide +kernel
theorem dX5_jobAt_4 : decode cX5_jobAt 4 = .ok (.iload_n 1, 1) := by decide +kernel
theorem dX5_jobAt_5 : decode cX5_jobAt 5 = .ok (.aload_n 0, 1) := by decide +kernel
theorem dX5_jobAt_6 : decode cX5_jobAt 6 = .ok (.getfield 10, 3) := by decide +kernel
theorem dX5_jobAt_9 : decode cX5_jobAt 9 = .ok (.invokevirtual 31, 3) := by decide +kernel
theorem dX5_jobAt_12 : decode cX5_jobAt 12 = .ok (.if_icmp .lt 13, 3) := by decide +kernel
theorem dX5_jobAt_15 : decode cX5_jobAt 15 = .ok (.new 204, 3) := by decide +kernel
theorem dX5_jobAt_18 : decode cX5_jobAt 18 = .ok (.dup, 1) := by decide +kernel
theorem dX5_jobAt_19 : decode cX5_jobAt 19 = .ok (.ldc 206, 2) := by decide +kernel
theorem dX5_jobAt_21 : decode cX5_jobAt 21 = .ok (.invokespecial 208, 3) := by decide +kernel
theorem dX5_jobAt_24 : decode cX5_jobAt 24 = .ok (.athrow, 1) := by decide +kernel
theorem dX5_jobAt_25 : decode cX5_jobAt 25 = .ok (.aload_n 0, 1) := by decide +kernel
theorem dX5_jobAt_26 : decode cX5_jobAt 26 = .ok (.getfield 10, 3) := by decide +kernel
theorem dX5_jobAt_29 : decode cX5_jobAt 29 = .ok (.iload_n 1, 1) := by decide +kernel
theorem dX5_jobAt_30 : decode cX5_jobAt 30 = .ok (.invokevirtual 164, 3) := by decide +kernel
theorem dX5_jobAt_33 : decode cX5_jobAt 33 = .ok (.checkcast 42, 3) := by decide +kernel
theorem dX5_jobAt_36 : decode cX5_jobAt 36 = .ok (.areturn, 1) := by decide +kernel
theorem dX5_deviceAt_0 : decode cX5_deviceAt 0 = .ok (.iload_n 1, 1) := by decide +kernel
theorem dX5_deviceAt_1 : decode cX5_deviceAt 1 = .ok (.ifCond .lt 8, 3) := by decide +kernel
theorem dX5_deviceAt_4 : decode cX5_deviceAt 4 = .ok (.iload_n 1, 1) := by decide +kernel
theorem dX5_deviceAt_5 : decode cX5_deviceAt 5 = .ok (.iconst 4, 1) := by decide +kernel
theorem dX5_deviceAt_6 : decode cX5_deviceAt 6 = .ok (.if_icmp .lt 13, 3) := by decide +kernel
theorem dX5_deviceAt_9 : decode cX5_deviceAt 9 = .ok (.new 204, 3) := by decide +kernel
theorem dX5_deviceAt_12 : decode cX5_deviceAt 12 = .ok (.dup, 1) := by decide +kernel
theorem dX5_deviceAt_13 : decode cX5_deviceAt 13 = .ok (.ldc 209, 2) := by decide +kernel
theorem dX5_deviceAt_15 : decode cX5_deviceAt 15 = .ok (.invokespecial 208, 3) := by decide +kernel
theorem dX5_deviceAt_18 : decode cX5_deviceAt 18 = .ok (.athrow, 1) := by decide +kernel
theorem dX5_deviceAt_19 : decode cX5_deviceAt 19 = .ok (.aload_n 0, 1) := by decide +kernel
theorem dX5_deviceAt_20 : decode cX5_deviceAt 20 = .ok (.getfield 18, 3) := by decide +kernel
theorem dX5_deviceAt_23 : decode cX5_deviceAt 23 = .ok (.iload_n 1, 1) := by decide +kernel
theorem dX5_deviceAt_24 : decode cX5_deviceAt 24 = .ok (.aaload, 1) := by decide +kernel
theorem dX5_deviceAt_25 : decode cX5_deviceAt 25 = .ok (.areturn, 1) := by decide +kernel
theorem dX5_refusedAt_0 : decode cX5_refusedAt 0 = .ok (.aload_n 0, 1) := by decide +kernel
theorem dX5_refusedAt_1 : decode cX5_refusedAt 1 = .ok (.iload_n 1, 1) := by decide +kernel
theorem dX5_refusedAt_2 : decode cX5_refusedAt 2 = .ok (.invokevirtual 84, 3) := by decide +kernel
theorem dX5_refusedAt_5 : decode cX5_refusedAt 5 = .ok (.getfield 149, 3) := by decide +kernel
theorem dX5_refusedAt_8 : decode cX5_refusedAt 8 = .ok (.astore_n 3, 1) := by decide +kernel
theorem dX5_refusedAt_9 : decode cX5_refusedAt 9 = .ok (.iload_n 2, 1) := by decide +kernel
theorem dX5_refusedAt_10 : decode cX5_refusedAt 10 = .ok (.ifCond .lt 11, 3) := by decide +kernel
theorem dX5_refusedAt_13 : decode cX5_refusedAt 13 = .ok (.iload_n 2, 1) := by decide +kernel
theorem dX5_refusedAt_14 : decode cX5_refusedAt 14 = .ok (.aload_n 3, 1) := by decide +kernel
theorem dX5_refusedAt_15 : decode cX5_refusedAt 15 = .ok (.invokevirtual 31, 3) := by decide +kernel
theorem dX5_refusedAt_18 : decode cX5_refusedAt 18 = .ok (.if_icmp .lt 13, 3) := by decide +kernel
theorem dX5_refusedAt_21 : decode cX5_refusedAt 21 = .ok (.new 204, 3) := by decide +kernel
theorem dX5_refusedAt_24 : decode cX5_refusedAt 24 = .ok (.dup, 1) := by decide +kernel
theorem dX5_refusedAt_25 : decode cX5_refusedAt 25 = .ok (.ldc 211, 2) := by decide +kernel
theorem dX5_refusedAt_27 : decode cX5_refusedAt 27 = .ok (.invokespecial 208, 3) := by decide +kernel
theorem dX5_refusedAt_30 : decode cX5_refusedAt 30 = .ok (.athrow, 1) := by decide +kernel
theorem dX5_refusedAt_31 : decode cX5_refusedAt 31 = .ok (.aload_n 3, 1) := by decide +kernel
theorem dX5_refusedAt_32 : decode cX5_refusedAt 32 = .ok (.iload_n 2, 1) := by decide +kernel
theorem dX5_refusedAt_33 : decode cX5_refusedAt 33 = .ok (.invokevirtual 164, 3) := by decide +kernel
theorem dX5_refusedAt_36 : decode cX5_refusedAt 36 = .ok (.checkcast 157, 3) := by decide +kernel
theorem dX5_refusedAt_39 : decode cX5_refusedAt 39 = .ok (.areturn, 1) := by decide +kernel
theorem dX5_fieldsHeld_0 : decode cX5_fieldsHeld 0 = .ok (.aload_n 0, 1) := by decide +kernel
theorem dX5_fieldsHeld_1 : decode cX5_fieldsHeld 1 = .ok (.iload_n 1, 1) := by decide +kernel
theorem dX5_fieldsHeld_2 : decode cX5_fieldsHeld 2 = .ok (.invokevirtual 101, 3) := by decide +kernel
theorem dX5_fieldsHeld_5 : decode cX5_fieldsHeld 5 = .ok (.astore_n 2, 1) := by decide +kernel
theorem dX5_fieldsHeld_6 : decode cX5_fieldsHeld 6 = .ok (.aload_n 2, 1) := by decide +kernel
theorem dX5_fieldsHeld_7 : decode cX5_fieldsHeld 7 = .ok (.ifnonnull 13, 3) := by decide +kernel
theorem dX5_fieldsHeld_10 : decode cX5_fieldsHeld 10 = .ok (.new 35, 3) := by decide +kernel
theorem dX5_fieldsHeld_13 : decode cX5_fieldsHeld 13 = .ok (.dup, 1) := by decide +kernel
theorem dX5_fieldsHeld_14 : decode cX5_fieldsHeld 14 = .ok (.ldc 213, 2) := by decide +kernel
theorem dX5_fieldsHeld_16 : decode cX5_fieldsHeld 16 = .ok (.invokespecial 39, 3) := by decide +kernel
theorem dX5_fieldsHeld_19 : decode cX5_fieldsHeld 19 = .ok (.athrow, 1) := by decide +kernel
theorem dX5_fieldsHeld_20 : decode cX5_fieldsHeld 20 = .ok (.aload_n 2, 1) := by decide +kernel
theorem dX5_fieldsHeld_21 : decode cX5_fieldsHeld 21 = .ok (.areturn, 1) := by decide +kernel
theorem dX5_checkRange_0 : decode cX5_checkRange 0 = .ok (.iload_n 0, 1) := by decide +kernel
theorem dX5_checkRange_1 : decode cX5_checkRange 1 = .ok (.iload_n 1, 1) := by decide +kernel
theorem dX5_checkRange_2 : decode cX5_checkRange 2 = .ok (.if_icmp .lt 8, 3) := by decide +kernel
theorem dX5_checkRange_5 : decode cX5_checkRange 5 = .ok (.iload_n 0, 1) := by decide +kernel
theorem dX5_checkRange_6 : decode cX5_checkRange 6 = .ok (.iload_n 2, 1) := by decide +kernel
theorem dX5_checkRange_7 : decode cX5_checkRange 7 = .ok (.if_icmp .le 13, 3) := by decide +kernel
theorem dX5_checkRange_10 : decode cX5_checkRange 10 = .ok (.new 127, 3) := by decide +kernel
theorem dX5_checkRange_13 : decode cX5_checkRange 13 = .ok (.dup, 1) := by decide +kernel
theorem dX5_checkRange_14 : decode cX5_checkRange 14 = .ok (.ldc 215, 2) := by decide +kernel
theorem dX5_checkRange_16 : decode cX5_checkRange 16 = .ok (.invokespecial 131, 3) := by decide +kernel
theorem dX5_checkRange_19 : decode cX5_checkRange 19 = .ok (.athrow, 1) := by decide +kernel
theorem dX5_checkRange_20 : decode cX5_checkRange 20 = .ok (.return_, 1) := by decide +kernel
theorem dX5_checkField_0 : decode cX5_checkField 0 = .ok (.iload_n 0, 1) := by decide +kernel
theorem dX5_checkField_1 : decode cX5_checkField 1 = .ok (.iconst 0, 1) := by decide +kernel
theorem dX5_checkField_2 : decode cX5_checkField 2 = .ok (.iconst 1, 1) := by decide +kernel
theorem dX5_checkField_3 : decode cX5_checkField 3 = .ok (.invokestatic 27, 3) := by decide +kernel
theorem dX5_checkField_6 : decode cX5_checkField 6 = .ok (.return_, 1) := by decide +kernel
theorem dX5_checkValue_0 : decode cX5_checkValue 0 = .ok (.iload_n 0, 1) := by decide +kernel
theorem dX5_checkValue_1 : decode cX5_checkValue 1 = .ok (.invokestatic 77, 3) := by decide +kernel
theorem dX5_checkValue_4 : decode cX5_checkValue 4 = .ok (.iload_n 1, 1) := by decide +kernel
theorem dX5_checkValue_5 : decode cX5_checkValue 5 = .ok (.iconst 0, 1) := by decide +kernel
theorem dX5_checkValue_6 : decode cX5_checkValue 6 = .ok (.iload_n 0, 1) := by decide +kernel
theorem dX5_checkValue_7 : decode cX5_checkValue 7 = .ok (.ifCond .ne 7, 3) := by decide +kernel
theorem dX5_checkValue_10 : decode cX5_checkValue 10 = .ok (.iconst 2, 1) := by decide +kernel
theorem dX5_checkValue_11 : decode cX5_checkValue 11 = .ok (.goto 6, 3) := by decide +kernel
theorem dX5_checkValue_14 : decode cX5_checkValue 14 = .ok (.sipush 10000, 3) := by decide +kernel
theorem dX5_checkValue_17 : decode cX5_checkValue 17 = .ok (.invokestatic 27, 3) := by decide +kernel
theorem dX5_checkValue_20 : decode cX5_checkValue 20 = .ok (.return_, 1) := by decide +kernel
theorem dJ9_max_7cf53_0 : decode cJ9_max_7cf53 0 = .ok (.iload_n 0, 1) := by decide +kernel
theorem dJ9_max_7cf53_1 : decode cJ9_max_7cf53 1 = .ok (.iload_n 1, 1) := by decide +kernel
theorem dJ9_max_7cf53_2 : decode cJ9_max_7cf53 2 = .ok (.if_icmp .lt 7, 3) := by decide +kernel
theorem dJ9_max_7cf53_5 : decode cJ9_max_7cf53 5 = .ok (.iload_n 0, 1) := by decide +kernel
theorem dJ9_max_7cf53_6 : decode cJ9_max_7cf53 6 = .ok (.goto 4, 3) := by decide +kernel
theorem dJ9_max_7cf53_9 : decode cJ9_max_7cf53 9 = .ok (.iload_n 1, 1) := by decide +kernel
theorem dJ9_max_7cf53_10 : decode cJ9_max_7cf53 10 = .ok (.ireturn, 1) := by decide +kernel
theorem dJ9_min_7cf53_0 : decode cJ9_min_7cf53 0 = .ok (.iload_n 0, 1) := by decide +kernel
theorem dJ9_min_7cf53_1 : decode cJ9_min_7cf53 1 = .ok (.iload_n 1, 1) := by decide +kernel
theorem dJ9_min_7cf53_2 : decode cJ9_min_7cf53 2 = .ok (.if_icmp .gt 7, 3) := by decide +kernel
theorem dJ9_min_7cf53_5 : decode cJ9_min_7cf53 5 = .ok (.iload_n 0, 1) := by decide +kernel
theorem dJ9_min_7cf53_6 : decode cJ9_min_7cf53 6 = .ok (.goto 4, 3) := by decide +kernel
theorem dJ9_min_7cf53_9 : decode cJ9_min_7cf53 9 = .ok (.iload_n 1, 1) := by decide +kernel
theorem dJ9_min_7cf53_10 : decode cJ9_min_7cf53 10 = .ok (.ireturn, 1) := by decide +kernel
theorem dJxa1e45_init_da8c8_0 : decode cJxa1e45_init_da8c8 0 = .ok (.aload_n 0, 1) := by decide +kernel
theorem dJxa1e45_init_da8c8_1 : decode cJxa1e45_init_da8c8 1 = .ok (.invokespecial 1, 3) := by decide +kernel
theorem dJxa1e45_init_da8c8_4 : decode cJxa1e45_init_da8c8 4 = .ok (.return_, 1) := by decide +kernel
theorem dJxc12de_init_da8c8_0 : decode cJxc12de_init_da8c8 0 = .ok (.aload_n 0, 1) := by decide +kernel
theorem dJxc12de_init_da8c8_1 : decode cJxc12de_init_da8c8 1 = .ok (.invokespecial 1, 3) := by decide +kernel
theorem dJxc12de_init_da8c8_4 : decode cJxc12de_init_da8c8 4 = .ok (.aload_n 0, 1) := by decide +kernel
theorem dJxc12de_init_da8c8_5 : decode cJxc12de_init_da8c8 5 = .ok (.iconst 0, 1) := by decide +kernel
theorem dJxc12de_init_da8c8_6 : decode cJxc12de_init_da8c8 6 = .ok (.putfield 7, 3) := by decide +kernel
theorem dJxc12de_init_da8c8_9 : decode cJxc12de_init_da8c8 9 = .ok (.return_, 1) := by decide +kernel
theorem dJx4a65c_init_da8c8_0 : decode cJx4a65c_init_da8c8 0 = .ok (.aload_n 0, 1) := by decide +kernel
theorem dJx4a65c_init_da8c8_1 : decode cJx4a65c_init_da8c8 1 = .ok (.invokespecial 1, 3) := by decide +kernel
theorem dJx4a65c_init_da8c8_4 : decode cJx4a65c_init_da8c8 4 = .ok (.aload_n 0, 1) := by decide +kernel
theorem dJx4a65c_init_da8c8_5 : decode cJx4a65c_init_da8c8 5 = .ok (.getstatic 39, 3) := by decide +kernel
theorem dJx4a65c_init_da8c8_8 : decode cJx4a65c_init_da8c8 8 = .ok (.putfield 9, 3) := by decide +kernel
theorem dJx4a65c_init_da8c8_11 : decode cJx4a65c_init_da8c8 11 = .ok (.return_, 1) := by decide +kernel
theorem dJx4a65c_grow_92f84_0 : decode cJx4a65c_grow_92f84 0 = .ok (.aload_n 0, 1) := by decide +kernel
theorem dJx4a65c_grow_92f84_1 : decode cJx4a65c_grow_92f84 1 = .ok (.getfield 9, 3) := by decide +kernel
theorem dJx4a65c_grow_92f84_4 : decode cJx4a65c_grow_92f84 4 = .ok (.arraylength, 1) := by decide +kernel
theorem dJx4a65c_grow_92f84_5 : decode cJx4a65c_grow_92f84 5 = .ok (.istore_n 2, 1) := by decide +kernel
theorem dJx4a65c_grow_92f84_6 : decode cJx4a65c_grow_92f84 6 = .ok (.iload_n 2, 1) := by decide +kernel
theorem dJx4a65c_grow_92f84_7 : decode cJx4a65c_grow_92f84 7 = .ok (.ifCond .gt 13, 3) := by decide +kernel
theorem dJx4a65c_grow_92f84_10 : decode cJx4a65c_grow_92f84 10 = .ok (.aload_n 0, 1) := by decide +kernel
theorem dJx4a65c_grow_92f84_11 : decode cJx4a65c_grow_92f84 11 = .ok (.getfield 9, 3) := by decide +kernel
theorem dJx4a65c_grow_92f84_14 : decode cJx4a65c_grow_92f84 14 = .ok (.getstatic 39, 3) := by decide +kernel
theorem dJx4a65c_grow_92f84_17 : decode cJx4a65c_grow_92f84 17 = .ok (.if_acmp .eq 28, 3) := by decide +kernel
theorem dJx4a65c_grow_92f84_20 : decode cJx4a65c_grow_92f84 20 = .ok (.iload_n 2, 1) := by decide +kernel
theorem dJx4a65c_grow_92f84_21 : decode cJx4a65c_grow_92f84 21 = .ok (.iload_n 1, 1) := by decide +kernel
theorem dJx4a65c_grow_92f84_22 : decode cJx4a65c_grow_92f84 22 = .ok (.iload_n 2, 1) := by decide +kernel
theorem dJx4a65c_grow_92f84_23 : decode cJx4a65c_grow_92f84 23 = .ok (.isub, 1) := by decide +kernel
theorem dJx4a65c_grow_92f84_24 : decode cJx4a65c_grow_92f84 24 = .ok (.iload_n 2, 1) := by decide +kernel
theorem dJx4a65c_grow_92f84_25 : decode cJx4a65c_grow_92f84 25 = .ok (.iconst 1, 1) := by decide +kernel
theorem dJx4a65c_grow_92f84_26 : decode cJx4a65c_grow_92f84 26 = .ok (.ishr, 1) := by decide +kernel
theorem dJx4a65c_grow_92f84_27 : decode cJx4a65c_grow_92f84 27 = .ok (.invokestatic 73, 3) := by decide +kernel
theorem dJx4a65c_grow_92f84_30 : decode cJx4a65c_grow_92f84 30 = .ok (.istore_n 3, 1) := by decide +kernel
theorem dJx4a65c_grow_92f84_31 : decode cJx4a65c_grow_92f84 31 = .ok (.aload_n 0, 1) := by decide +kernel
theorem dJx4a65c_grow_92f84_32 : decode cJx4a65c_grow_92f84 32 = .ok (.aload_n 0, 1) := by decide +kernel
theorem dJx4a65c_grow_92f84_33 : decode cJx4a65c_grow_92f84 33 = .ok (.getfield 9, 3) := by decide +kernel
theorem dJx4a65c_grow_92f84_36 : decode cJx4a65c_grow_92f84 36 = .ok (.iload_n 3, 1) := by decide +kernel
theorem dJx4a65c_grow_92f84_37 : decode cJx4a65c_grow_92f84 37 = .ok (.invokestatic 66, 3) := by decide +kernel
theorem dJx4a65c_grow_92f84_40 : decode cJx4a65c_grow_92f84 40 = .ok (.dup_x1, 1) := by decide +kernel
theorem dJx4a65c_grow_92f84_41 : decode cJx4a65c_grow_92f84 41 = .ok (.putfield 9, 3) := by decide +kernel
theorem dJx4a65c_grow_92f84_44 : decode cJx4a65c_grow_92f84 44 = .ok (.areturn, 1) := by decide +kernel
theorem dJx4a65c_grow_92f84_45 : decode cJx4a65c_grow_92f84 45 = .ok (.aload_n 0, 1) := by decide +kernel
theorem dJx4a65c_grow_92f84_46 : decode cJx4a65c_grow_92f84 46 = .ok (.bipush 10, 2) := by decide +kernel
theorem dJx4a65c_grow_92f84_48 : decode cJx4a65c_grow_92f84 48 = .ok (.iload_n 1, 1) := by decide +kernel
theorem dJx4a65c_grow_92f84_49 : decode cJx4a65c_grow_92f84 49 = .ok (.invokestatic 79, 3) := by decide +kernel
theorem dJx4a65c_grow_92f84_52 : decode cJx4a65c_grow_92f84 52 = .ok (.anewarray 7, 3) := by decide +kernel
theorem dJx4a65c_grow_92f84_55 : decode cJx4a65c_grow_92f84 55 = .ok (.dup_x1, 1) := by decide +kernel
theorem dJx4a65c_grow_92f84_56 : decode cJx4a65c_grow_92f84 56 = .ok (.putfield 9, 3) := by decide +kernel
theorem dJx4a65c_grow_92f84_59 : decode cJx4a65c_grow_92f84 59 = .ok (.areturn, 1) := by decide +kernel
theorem dJx4a65c_grow_d5877_0 : decode cJx4a65c_grow_d5877 0 = .ok (.aload_n 0, 1) := by decide +kernel
theorem dJx4a65c_grow_d5877_1 : decode cJx4a65c_grow_d5877 1 = .ok (.aload_n 0, 1) := by decide +kernel
theorem dJx4a65c_grow_d5877_2 : decode cJx4a65c_grow_d5877 2 = .ok (.getfield 48, 3) := by decide +kernel
theorem dJx4a65c_grow_d5877_5 : decode cJx4a65c_grow_d5877 5 = .ok (.iconst 1, 1) := by decide +kernel
theorem dJx4a65c_grow_d5877_6 : decode cJx4a65c_grow_d5877 6 = .ok (.iadd, 1) := by decide +kernel
theorem dJx4a65c_grow_d5877_7 : decode cJx4a65c_grow_d5877 7 = .ok (.invokevirtual 69, 3) := by decide +kernel
theorem dJx4a65c_grow_d5877_10 : decode cJx4a65c_grow_d5877 10 = .ok (.areturn, 1) := by decide +kernel
theorem dJx4a65c_size_8abf5_0 : decode cJx4a65c_size_8abf5 0 = .ok (.aload_n 0, 1) := by decide +kernel
theorem dJx4a65c_size_8abf5_1 : decode cJx4a65c_size_8abf5 1 = .ok (.getfield 48, 3) := by decide +kernel
theorem dJx4a65c_size_8abf5_4 : decode cJx4a65c_size_8abf5 4 = .ok (.ireturn, 1) := by decide +kernel
theorem dJx4a65c_elementData_915e3_0 : decode cJx4a65c_elementData_915e3 0 = .ok (.aload_n 0, 1) := by decide +kernel
theorem dJx4a65c_elementData_915e3_1 : decode cJx4a65c_elementData_915e3 1 = .ok (.getfield 9, 3) := by decide +kernel
theorem dJx4a65c_elementData_915e3_4 : decode cJx4a65c_elementData_915e3 4 = .ok (.iload_n 1, 1) := by decide +kernel
theorem dJx4a65c_elementData_915e3_5 : decode cJx4a65c_elementData_915e3 5 = .ok (.aaload, 1) := by decide +kernel
theorem dJx4a65c_elementData_915e3_6 : decode cJx4a65c_elementData_915e3 6 = .ok (.areturn, 1) := by decide +kernel
theorem dJx4a65c_get_915e3_0 : decode cJx4a65c_get_915e3 0 = .ok (.iload_n 1, 1) := by decide +kernel
theorem dJx4a65c_get_915e3_1 : decode cJx4a65c_get_915e3 1 = .ok (.aload_n 0, 1) := by decide +kernel
theorem dJx4a65c_get_915e3_2 : decode cJx4a65c_get_915e3 2 = .ok (.getfield 48, 3) := by decide +kernel
theorem dJx4a65c_get_915e3_5 : decode cJx4a65c_get_915e3 5 = .ok (.invokestatic 118, 3) := by decide +kernel
theorem dJx4a65c_get_915e3_8 : decode cJx4a65c_get_915e3 8 = .ok (.pop, 1) := by decide +kernel
theorem dJx4a65c_get_915e3_9 : decode cJx4a65c_get_915e3 9 = .ok (.aload_n 0, 1) := by decide +kernel
theorem dJx4a65c_get_915e3_10 : decode cJx4a65c_get_915e3 10 = .ok (.iload_n 1, 1) := by decide +kernel
theorem dJx4a65c_get_915e3_11 : decode cJx4a65c_get_915e3 11 = .ok (.invokevirtual 123, 3) := by decide +kernel
theorem dJx4a65c_get_915e3_14 : decode cJx4a65c_get_915e3 14 = .ok (.areturn, 1) := by decide +kernel
theorem dJx4a65c_add_72be8_0 : decode cJx4a65c_add_72be8 0 = .ok (.iload_n 3, 1) := by decide +kernel
theorem dJx4a65c_add_72be8_1 : decode cJx4a65c_add_72be8 1 = .ok (.aload_n 2, 1) := by decide +kernel
theorem dJx4a65c_add_72be8_2 : decode cJx4a65c_add_72be8 2 = .ok (.arraylength, 1) := by decide +kernel
theorem dJx4a65c_add_72be8_3 : decode cJx4a65c_add_72be8 3 = .ok (.if_icmp .ne 8, 3) := by decide +kernel
theorem dJx4a65c_add_72be8_6 : decode cJx4a65c_add_72be8 6 = .ok (.aload_n 0, 1) := by decide +kernel
theorem dJx4a65c_add_72be8_7 : decode cJx4a65c_add_72be8 7 = .ok (.invokevirtual 129, 3) := by decide +kernel
theorem dJx4a65c_add_72be8_10 : decode cJx4a65c_add_72be8 10 = .ok (.astore_n 2, 1) := by decide +kernel
theorem dJx4a65c_add_72be8_11 : decode cJx4a65c_add_72be8 11 = .ok (.aload_n 2, 1) := by decide +kernel
theorem dJx4a65c_add_72be8_12 : decode cJx4a65c_add_72be8 12 = .ok (.iload_n 3, 1) := by decide +kernel
theorem dJx4a65c_add_72be8_13 : decode cJx4a65c_add_72be8 13 = .ok (.aload_n 1, 1) := by decide +kernel
theorem dJx4a65c_add_72be8_14 : decode cJx4a65c_add_72be8 14 = .ok (.aastore, 1) := by decide +kernel
theorem dJx4a65c_add_72be8_15 : decode cJx4a65c_add_72be8 15 = .ok (.aload_n 0, 1) := by decide +kernel
theorem dJx4a65c_add_72be8_16 : decode cJx4a65c_add_72be8 16 = .ok (.iload_n 3, 1) := by decide +kernel
theorem dJx4a65c_add_72be8_17 : decode cJx4a65c_add_72be8 17 = .ok (.iconst 1, 1) := by decide +kernel
theorem dJx4a65c_add_72be8_18 : decode cJx4a65c_add_72be8 18 = .ok (.iadd, 1) := by decide +kernel
theorem dJx4a65c_add_72be8_19 : decode cJx4a65c_add_72be8 19 = .ok (.putfield 48, 3) := by decide +kernel
theorem dJx4a65c_add_72be8_22 : decode cJx4a65c_add_72be8 22 = .ok (.return_, 1) := by decide +kernel
theorem dJx4a65c_add_9ea2d_0 : decode cJx4a65c_add_9ea2d 0 = .ok (.aload_n 0, 1) := by decide +kernel
theorem dJx4a65c_add_9ea2d_1 : decode cJx4a65c_add_9ea2d 1 = .ok (.dup, 1) := by decide +kernel
theorem dJx4a65c_add_9ea2d_2 : decode cJx4a65c_add_9ea2d 2 = .ok (.getfield 63, 3) := by decide +kernel
theorem dJx4a65c_add_9ea2d_5 : decode cJx4a65c_add_9ea2d 5 = .ok (.iconst 1, 1) := by decide +kernel
theorem dJx4a65c_add_9ea2d_6 : decode cJx4a65c_add_9ea2d 6 = .ok (.iadd, 1) := by decide +kernel
theorem dJx4a65c_add_9ea2d_7 : decode cJx4a65c_add_9ea2d 7 = .ok (.putfield 63, 3) := by decide +kernel
theorem dJx4a65c_add_9ea2d_10 : decode cJx4a65c_add_9ea2d 10 = .ok (.aload_n 0, 1) := by decide +kernel
theorem dJx4a65c_add_9ea2d_11 : decode cJx4a65c_add_9ea2d 11 = .ok (.aload_n 1, 1) := by decide +kernel
theorem dJx4a65c_add_9ea2d_12 : decode cJx4a65c_add_9ea2d 12 = .ok (.aload_n 0, 1) := by decide +kernel
theorem dJx4a65c_add_9ea2d_13 : decode cJx4a65c_add_9ea2d 13 = .ok (.getfield 9, 3) := by decide +kernel
theorem dJx4a65c_add_9ea2d_16 : decode cJx4a65c_add_9ea2d 16 = .ok (.aload_n 0, 1) := by decide +kernel
theorem dJx4a65c_add_9ea2d_17 : decode cJx4a65c_add_9ea2d 17 = .ok (.getfield 48, 3) := by decide +kernel
theorem dJx4a65c_add_9ea2d_20 : decode cJx4a65c_add_9ea2d 20 = .ok (.invokevirtual 131, 3) := by decide +kernel
theorem dJx4a65c_add_9ea2d_23 : decode cJx4a65c_add_9ea2d 23 = .ok (.iconst 1, 1) := by decide +kernel
theorem dJx4a65c_add_9ea2d_24 : decode cJx4a65c_add_9ea2d 24 = .ok (.ireturn, 1) := by decide +kernel
theorem dJ7_copyOf_1904c_0 : decode cJ7_copyOf_1904c 0 = .ok (.aload_n 0, 1) := by decide +kernel
theorem dJ7_copyOf_1904c_1 : decode cJ7_copyOf_1904c 1 = .ok (.iload_n 1, 1) := by decide +kernel
theorem dJ7_copyOf_1904c_2 : decode cJ7_copyOf_1904c 2 = .ok (.aload_n 0, 1) := by decide +kernel
theorem dJ7_copyOf_1904c_3 : decode cJ7_copyOf_1904c 3 = .ok (.invokevirtual 86, 3) := by decide +kernel
theorem dJ7_copyOf_1904c_6 : decode cJ7_copyOf_1904c 6 = .ok (.invokestatic 300, 3) := by decide +kernel
theorem dJ7_copyOf_1904c_9 : decode cJ7_copyOf_1904c 9 = .ok (.areturn, 1) := by decide +kernel
theorem dJ7_copyOf_6403c_0 : decode cJ7_copyOf_6403c 0 = .ok (.aload_n 2, 1) := by decide +kernel
theorem dJ7_copyOf_6403c_1 : decode cJ7_copyOf_6403c 1 = .ok (.ldc 110, 2) := by decide +kernel
theorem dJ7_copyOf_6403c_3 : decode cJ7_copyOf_6403c 3 = .ok (.if_acmp .ne 10, 3) := by decide +kernel
theorem dJ7_copyOf_6403c_6 : decode cJ7_copyOf_6403c 6 = .ok (.iload_n 1, 1) := by decide +kernel
theorem dJ7_copyOf_6403c_7 : decode cJ7_copyOf_6403c 7 = .ok (.anewarray 2, 3) := by decide +kernel
theorem dJ7_copyOf_6403c_10 : decode cJ7_copyOf_6403c 10 = .ok (.goto 14, 3) := by decide +kernel
theorem dJ7_copyOf_6403c_13 : decode cJ7_copyOf_6403c 13 = .ok (.aload_n 2, 1) := by decide +kernel
theorem dJ7_copyOf_6403c_14 : decode cJ7_copyOf_6403c 14 = .ok (.invokevirtual 90, 3) := by decide +kernel
theorem dJ7_copyOf_6403c_17 : decode cJ7_copyOf_6403c 17 = .ok (.iload_n 1, 1) := by decide +kernel
theorem dJ7_copyOf_6403c_18 : decode cJ7_copyOf_6403c 18 = .ok (.invokestatic 95, 3) := by decide +kernel
theorem dJ7_copyOf_6403c_21 : decode cJ7_copyOf_6403c 21 = .ok (.checkcast 110, 3) := by decide +kernel
theorem dJ7_copyOf_6403c_24 : decode cJ7_copyOf_6403c 24 = .ok (.astore_n 3, 1) := by decide +kernel
theorem dJ7_copyOf_6403c_25 : decode cJ7_copyOf_6403c 25 = .ok (.aload_n 0, 1) := by decide +kernel
theorem dJ7_copyOf_6403c_26 : decode cJ7_copyOf_6403c 26 = .ok (.iconst 0, 1) := by decide +kernel
theorem dJ7_copyOf_6403c_27 : decode cJ7_copyOf_6403c 27 = .ok (.aload_n 3, 1) := by decide +kernel
theorem dJ7_copyOf_6403c_28 : decode cJ7_copyOf_6403c 28 = .ok (.iconst 0, 1) := by decide +kernel
theorem dJ7_copyOf_6403c_29 : decode cJ7_copyOf_6403c 29 = .ok (.aload_n 0, 1) := by decide +kernel
theorem dJ7_copyOf_6403c_30 : decode cJ7_copyOf_6403c 30 = .ok (.arraylength, 1) := by decide +kernel
theorem dJ7_copyOf_6403c_31 : decode cJ7_copyOf_6403c 31 = .ok (.iload_n 1, 1) := by decide +kernel
theorem dJ7_copyOf_6403c_32 : decode cJ7_copyOf_6403c 32 = .ok (.invokestatic 304, 3) := by decide +kernel
theorem dJ7_copyOf_6403c_35 : decode cJ7_copyOf_6403c 35 = .ok (.invokestatic 150, 3) := by decide +kernel
theorem dJ7_copyOf_6403c_38 : decode cJ7_copyOf_6403c 38 = .ok (.aload_n 3, 1) := by decide +kernel
theorem dJ7_copyOf_6403c_39 : decode cJ7_copyOf_6403c 39 = .ok (.areturn, 1) := by decide +kernel
theorem dJ15_checkIndex_7cf53_0 : decode cJ15_checkIndex_7cf53 0 = .ok (.iload_n 0, 1) := by decide +kernel
theorem dJ15_checkIndex_7cf53_1 : decode cJ15_checkIndex_7cf53 1 = .ok (.iload_n 1, 1) := by decide +kernel
theorem dJ15_checkIndex_7cf53_2 : decode cJ15_checkIndex_7cf53 2 = .ok (.aconst_null, 1) := by decide +kernel
theorem dJ15_checkIndex_7cf53_3 : decode cJ15_checkIndex_7cf53 3 = .ok (.invokestatic 105, 3) := by decide +kernel
theorem dJ15_checkIndex_7cf53_6 : decode cJ15_checkIndex_7cf53 6 = .ok (.ireturn, 1) := by decide +kernel
theorem dJ8_newLength_cabcc_0 : decode cJ8_newLength_cabcc 0 = .ok (.iload_n 0, 1) := by decide +kernel
theorem dJ8_newLength_cabcc_1 : decode cJ8_newLength_cabcc 1 = .ok (.iload_n 1, 1) := by decide +kernel
theorem dJ8_newLength_cabcc_2 : decode cJ8_newLength_cabcc 2 = .ok (.iload_n 2, 1) := by decide +kernel
theorem dJ8_newLength_cabcc_3 : decode cJ8_newLength_cabcc 3 = .ok (.invokestatic 194, 3) := by decide +kernel
theorem dJ8_newLength_cabcc_6 : decode cJ8_newLength_cabcc 6 = .ok (.iadd, 1) := by decide +kernel
theorem dJ8_newLength_cabcc_7 : decode cJ8_newLength_cabcc 7 = .ok (.istore_n 3, 1) := by decide +kernel
theorem dJ8_newLength_cabcc_8 : decode cJ8_newLength_cabcc 8 = .ok (.iconst 0, 1) := by decide +kernel
theorem dJ8_newLength_cabcc_9 : decode cJ8_newLength_cabcc 9 = .ok (.iload_n 3, 1) := by decide +kernel
theorem dJ8_newLength_cabcc_10 : decode cJ8_newLength_cabcc 10 = .ok (.if_icmp .ge 11, 3) := by decide +kernel
theorem dJ8_newLength_cabcc_13 : decode cJ8_newLength_cabcc 13 = .ok (.iload_n 3, 1) := by decide +kernel
theorem dJ8_newLength_cabcc_14 : decode cJ8_newLength_cabcc 14 = .ok (.ldc 200, 2) := by decide +kernel
theorem dJ8_newLength_cabcc_16 : decode cJ8_newLength_cabcc 16 = .ok (.if_icmp .gt 5, 3) := by decide +kernel
theorem dJ8_newLength_cabcc_19 : decode cJ8_newLength_cabcc 19 = .ok (.iload_n 3, 1) := by decide +kernel
theorem dJ8_newLength_cabcc_20 : decode cJ8_newLength_cabcc 20 = .ok (.ireturn, 1) := by decide +kernel
theorem dJ8_newLength_cabcc_21 : decode cJ8_newLength_cabcc 21 = .ok (.iload_n 0, 1) := by decide +kernel
theorem dJ8_newLength_cabcc_22 : decode cJ8_newLength_cabcc 22 = .ok (.iload_n 1, 1) := by decide +kernel
theorem dJ8_newLength_cabcc_23 : decode cJ8_newLength_cabcc 23 = .ok (.invokestatic 201, 3) := by decide +kernel
theorem dJ8_newLength_cabcc_26 : decode cJ8_newLength_cabcc 26 = .ok (.ireturn, 1) := by decide +kernel
theorem dJ8_hugeLength_7cf53_0 : decode cJ8_hugeLength_7cf53 0 = .ok (.iload_n 0, 1) := by decide +kernel
theorem dJ8_hugeLength_7cf53_1 : decode cJ8_hugeLength_7cf53 1 = .ok (.iload_n 1, 1) := by decide +kernel
theorem dJ8_hugeLength_7cf53_2 : decode cJ8_hugeLength_7cf53 2 = .ok (.iadd, 1) := by decide +kernel
theorem dJ8_hugeLength_7cf53_3 : decode cJ8_hugeLength_7cf53 3 = .ok (.istore_n 2, 1) := by decide +kernel
theorem dJ8_hugeLength_7cf53_4 : decode cJ8_hugeLength_7cf53 4 = .ok (.iload_n 2, 1) := by decide +kernel
theorem dJ8_hugeLength_7cf53_5 : decode cJ8_hugeLength_7cf53 5 = .ok (.ifCond .ge 44, 3) := by decide +kernel
theorem dJ8_hugeLength_7cf53_8 : decode cJ8_hugeLength_7cf53 8 = .ok (.new 204, 3) := by decide +kernel
theorem dJ8_hugeLength_7cf53_11 : decode cJ8_hugeLength_7cf53 11 = .ok (.dup, 1) := by decide +kernel
theorem dJ8_hugeLength_7cf53_12 : decode cJ8_hugeLength_7cf53 12 = .ok (.new 89, 3) := by decide +kernel
theorem dJ8_hugeLength_7cf53_15 : decode cJ8_hugeLength_7cf53 15 = .ok (.dup, 1) := by decide +kernel
theorem dJ8_hugeLength_7cf53_16 : decode cJ8_hugeLength_7cf53 16 = .ok (.invokespecial 91, 3) := by decide +kernel
theorem dJ8_hugeLength_7cf53_19 : decode cJ8_hugeLength_7cf53 19 = .ok (.ldc 206, 2) := by decide +kernel
theorem dJ8_hugeLength_7cf53_21 : decode cJ8_hugeLength_7cf53 21 = .ok (.invokevirtual 94, 3) := by decide +kernel
theorem dJ8_hugeLength_7cf53_24 : decode cJ8_hugeLength_7cf53 24 = .ok (.iload_n 0, 1) := by decide +kernel
theorem dJ8_hugeLength_7cf53_25 : decode cJ8_hugeLength_7cf53 25 = .ok (.invokevirtual 98, 3) := by decide +kernel
theorem dJ8_hugeLength_7cf53_28 : decode cJ8_hugeLength_7cf53 28 = .ok (.ldc 208, 2) := by decide +kernel
theorem dJ8_hugeLength_7cf53_30 : decode cJ8_hugeLength_7cf53 30 = .ok (.invokevirtual 94, 3) := by decide +kernel
theorem dJ8_hugeLength_7cf53_33 : decode cJ8_hugeLength_7cf53 33 = .ok (.iload_n 1, 1) := by decide +kernel
theorem dJ8_hugeLength_7cf53_34 : decode cJ8_hugeLength_7cf53 34 = .ok (.invokevirtual 98, 3) := by decide +kernel
theorem dJ8_hugeLength_7cf53_37 : decode cJ8_hugeLength_7cf53 37 = .ok (.ldc 210, 2) := by decide +kernel
theorem dJ8_hugeLength_7cf53_39 : decode cJ8_hugeLength_7cf53 39 = .ok (.invokevirtual 94, 3) := by decide +kernel
theorem dJ8_hugeLength_7cf53_42 : decode cJ8_hugeLength_7cf53 42 = .ok (.invokevirtual 101, 3) := by decide +kernel
theorem dJ8_hugeLength_7cf53_45 : decode cJ8_hugeLength_7cf53 45 = .ok (.invokespecial 212, 3) := by decide +kernel
theorem dJ8_hugeLength_7cf53_48 : decode cJ8_hugeLength_7cf53 48 = .ok (.athrow, 1) := by decide +kernel
theorem dJ8_hugeLength_7cf53_49 : decode cJ8_hugeLength_7cf53 49 = .ok (.iload_n 2, 1) := by decide +kernel
theorem dJ8_hugeLength_7cf53_50 : decode cJ8_hugeLength_7cf53 50 = .ok (.ldc 200, 2) := by decide +kernel
theorem dJ8_hugeLength_7cf53_52 : decode cJ8_hugeLength_7cf53 52 = .ok (.if_icmp .gt 6, 3) := by decide +kernel
theorem dJ8_hugeLength_7cf53_55 : decode cJ8_hugeLength_7cf53 55 = .ok (.ldc 200, 2) := by decide +kernel
theorem dJ8_hugeLength_7cf53_57 : decode cJ8_hugeLength_7cf53 57 = .ok (.ireturn, 1) := by decide +kernel
theorem dJ8_hugeLength_7cf53_58 : decode cJ8_hugeLength_7cf53 58 = .ok (.iload_n 2, 1) := by decide +kernel
theorem dJ8_hugeLength_7cf53_59 : decode cJ8_hugeLength_7cf53 59 = .ok (.ireturn, 1) := by decide +kernel
theorem dJ3_checkIndex_8e157_0 : decode cJ3_checkIndex_8e157 0 = .ok (.iload_n 0, 1) := by decide +kernel
theorem dJ3_checkIndex_8e157_1 : decode cJ3_checkIndex_8e157 1 = .ok (.ifCond .lt 8, 3) := by decide +kernel
theorem dJ3_checkIndex_8e157_4 : decode cJ3_checkIndex_8e157 4 = .ok (.iload_n 0, 1) := by decide +kernel
theorem dJ3_checkIndex_8e157_5 : decode cJ3_checkIndex_8e157 5 = .ok (.iload_n 1, 1) := by decide +kernel
theorem dJ3_checkIndex_8e157_6 : decode cJ3_checkIndex_8e157 6 = .ok (.if_icmp .lt 10, 3) := by decide +kernel
theorem dJ3_checkIndex_8e157_9 : decode cJ3_checkIndex_8e157 9 = .ok (.aload_n 2, 1) := by decide +kernel
theorem dJ3_checkIndex_8e157_10 : decode cJ3_checkIndex_8e157 10 = .ok (.iload_n 0, 1) := by decide +kernel
theorem dJ3_checkIndex_8e157_11 : decode cJ3_checkIndex_8e157 11 = .ok (.iload_n 1, 1) := by decide +kernel
theorem dJ3_checkIndex_8e157_12 : decode cJ3_checkIndex_8e157 12 = .ok (.invokestatic 95, 3) := by decide +kernel
theorem dJ3_checkIndex_8e157_15 : decode cJ3_checkIndex_8e157 15 = .ok (.athrow, 1) := by decide +kernel
theorem dJ3_checkIndex_8e157_16 : decode cJ3_checkIndex_8e157 16 = .ok (.iload_n 0, 1) := by decide +kernel
theorem dJ3_checkIndex_8e157_17 : decode cJ3_checkIndex_8e157 17 = .ok (.ireturn, 1) := by decide +kernel
theorem dL_adds_0 : decode cL_adds 0 = .ok (.aload_n 0, 1) := by decide +kernel
theorem dL_adds_1 : decode cL_adds 1 = .ok (.iload_n 1, 1) := by decide +kernel
theorem dL_adds_2 : decode cL_adds 2 = .ok (.iload_n 2, 1) := by decide +kernel
theorem dL_adds_3 : decode cL_adds 3 = .ok (.invokevirtual 7, 3) := by decide +kernel
theorem dL_adds_6 : decode cL_adds 6 = .ok (.ireturn, 1) := by decide +kernel
theorem dL_adds_7 : decode cL_adds 7 = .ok (.astore_n 3, 1) := by decide +kernel
theorem dL_adds_8 : decode cL_adds 8 = .ok (.ldc 15, 2) := by decide +kernel
theorem dL_adds_10 : decode cL_adds 10 = .ok (.ireturn, 1) := by decide +kernel
theorem dL_adds_11 : decode cL_adds 11 = .ok (.astore_n 3, 1) := by decide +kernel
theorem dL_adds_12 : decode cL_adds 12 = .ok (.ldc 18, 2) := by decide +kernel
theorem dL_adds_14 : decode cL_adds 14 = .ok (.ireturn, 1) := by decide +kernel
theorem dL_gives_0 : decode cL_gives 0 = .ok (.aload_n 0, 1) := by decide +kernel
theorem dL_gives_1 : decode cL_gives 1 = .ok (.iload_n 1, 1) := by decide +kernel
theorem dL_gives_2 : decode cL_gives 2 = .ok (.iload_n 2, 1) := by decide +kernel
theorem dL_gives_3 : decode cL_gives 3 = .ok (.invokevirtual 19, 3) := by decide +kernel
theorem dL_gives_6 : decode cL_gives 6 = .ok (.ireturn, 1) := by decide +kernel
theorem dL_gives_7 : decode cL_gives 7 = .ok (.astore_n 3, 1) := by decide +kernel
theorem dL_gives_8 : decode cL_gives 8 = .ok (.ldc 24, 2) := by decide +kernel
theorem dL_gives_10 : decode cL_gives 10 = .ok (.ireturn, 1) := by decide +kernel
theorem dL_gives_11 : decode cL_gives 11 = .ok (.astore_n 3, 1) := by decide +kernel
theorem dL_gives_12 : decode cL_gives 12 = .ok (.ldc 15, 2) := by decide +kernel
theorem dL_gives_14 : decode cL_gives 14 = .ok (.ireturn, 1) := by decide +kernel
theorem dL_sets_0 : decode cL_sets 0 = .ok (.aload_n 0, 1) := by decide +kernel
theorem dL_sets_1 : decode cL_sets 1 = .ok (.iload_n 1, 1) := by decide +kernel
theorem dL_sets_2 : decode cL_sets 2 = .ok (.iload_n 2, 1) := by decide +kernel
theorem dL_sets_3 : decode cL_sets 3 = .ok (.iload_n 3, 1) := by decide +kernel
theorem dL_sets_4 : decode cL_sets 4 = .ok (.invokevirtual 25, 3) := by decide +kernel
theorem dL_sets_7 : decode cL_sets 7 = .ok (.ireturn, 1) := by decide +kernel
theorem dL_sets_8 : decode cL_sets 8 = .ok (.astore 4, 2) := by decide +kernel
theorem dL_sets_10 : decode cL_sets 10 = .ok (.ldc 24, 2) := by decide +kernel
theorem dL_sets_12 : decode cL_sets 12 = .ok (.ireturn, 1) := by decide +kernel
theorem dL_sets_13 : decode cL_sets 13 = .ok (.astore 4, 2) := by decide +kernel
theorem dL_sets_15 : decode cL_sets 15 = .ok (.ldc 15, 2) := by decide +kernel
theorem dL_sets_17 : decode cL_sets 17 = .ok (.ireturn, 1) := by decide +kernel
theorem dL_crew_0 : decode cL_crew 0 = .ok (.aload_n 0, 1) := by decide +kernel
theorem dL_crew_1 : decode cL_crew 1 = .ok (.iload_n 1, 1) := by decide +kernel
theorem dL_crew_2 : decode cL_crew 2 = .ok (.invokevirtual 29, 3) := by decide +kernel
theorem dL_crew_5 : decode cL_crew 5 = .ok (.ireturn, 1) := by decide +kernel
theorem dL_crew_6 : decode cL_crew 6 = .ok (.astore_n 2, 1) := by decide +kernel
theorem dL_crew_7 : decode cL_crew 7 = .ok (.ldc 24, 2) := by decide +kernel
theorem dL_crew_9 : decode cL_crew 9 = .ok (.ireturn, 1) := by decide +kernel
theorem dL_site_0 : decode cL_site 0 = .ok (.aload_n 0, 1) := by decide +kernel
theorem dL_site_1 : decode cL_site 1 = .ok (.iload_n 1, 1) := by decide +kernel
theorem dL_site_2 : decode cL_site 2 = .ok (.invokevirtual 33, 3) := by decide +kernel
theorem dL_site_5 : decode cL_site 5 = .ok (.ireturn, 1) := by decide +kernel
theorem dL_site_6 : decode cL_site 6 = .ok (.astore_n 2, 1) := by decide +kernel
theorem dL_site_7 : decode cL_site 7 = .ok (.ldc 24, 2) := by decide +kernel
theorem dL_site_9 : decode cL_site 9 = .ok (.ireturn, 1) := by decide +kernel
theorem dL_value_0 : decode cL_value 0 = .ok (.aload_n 0, 1) := by decide +kernel
theorem dL_value_1 : decode cL_value 1 = .ok (.iload_n 1, 1) := by decide +kernel
theorem dL_value_2 : decode cL_value 2 = .ok (.iload_n 2, 1) := by decide +kernel
theorem dL_value_3 : decode cL_value 3 = .ok (.invokevirtual 36, 3) := by decide +kernel
theorem dL_value_6 : decode cL_value 6 = .ok (.ireturn, 1) := by decide +kernel
theorem dL_value_7 : decode cL_value 7 = .ok (.astore_n 3, 1) := by decide +kernel
theorem dL_value_8 : decode cL_value 8 = .ok (.ldc 24, 2) := by decide +kernel
theorem dL_value_10 : decode cL_value 10 = .ok (.ireturn, 1) := by decide +kernel
theorem dL_value_11 : decode cL_value 11 = .ok (.astore_n 3, 1) := by decide +kernel
theorem dL_value_12 : decode cL_value 12 = .ok (.ldc 15, 2) := by decide +kernel
theorem dL_value_14 : decode cL_value 14 = .ok (.ireturn, 1) := by decide +kernel
theorem dL_version_0 : decode cL_version 0 = .ok (.aload_n 0, 1) := by decide +kernel
theorem dL_version_1 : decode cL_version 1 = .ok (.iload_n 1, 1) := by decide +kernel
theorem dL_version_2 : decode cL_version 2 = .ok (.iload_n 2, 1) := by decide +kernel
theorem dL_version_3 : decode cL_version 3 = .ok (.invokevirtual 39, 3) := by decide +kernel
theorem dL_version_6 : decode cL_version 6 = .ok (.ireturn, 1) := by decide +kernel
theorem dL_version_7 : decode cL_version 7 = .ok (.astore_n 3, 1) := by decide +kernel
theorem dL_version_8 : decode cL_version 8 = .ok (.ldc 24, 2) := by decide +kernel
theorem dL_version_10 : decode cL_version 10 = .ok (.ireturn, 1) := by decide +kernel
theorem dL_version_11 : decode cL_version 11 = .ok (.astore_n 3, 1) := by decide +kernel
theorem dL_version_12 : decode cL_version 12 = .ok (.ldc 15, 2) := by decide +kernel
theorem dL_version_14 : decode cL_version 14 = .ok (.ireturn, 1) := by decide +kernel
theorem dL_rooms_0 : decode cL_rooms 0 = .ok (.aload_n 0, 1) := by decide +kernel
theorem dL_rooms_1 : decode cL_rooms 1 = .ok (.iload_n 1, 1) := by decide +kernel
theorem dL_rooms_2 : decode cL_rooms 2 = .ok (.iload_n 2, 1) := by decide +kernel
theorem dL_rooms_3 : decode cL_rooms 3 = .ok (.invokevirtual 42, 3) := by decide +kernel
theorem dL_rooms_6 : decode cL_rooms 6 = .ok (.ireturn, 1) := by decide +kernel
theorem dL_rooms_7 : decode cL_rooms 7 = .ok (.astore_n 3, 1) := by decide +kernel
theorem dL_rooms_8 : decode cL_rooms 8 = .ok (.ldc 24, 2) := by decide +kernel
theorem dL_rooms_10 : decode cL_rooms 10 = .ok (.ireturn, 1) := by decide +kernel
theorem dL_rooms_11 : decode cL_rooms 11 = .ok (.astore_n 3, 1) := by decide +kernel
theorem dL_rooms_12 : decode cL_rooms 12 = .ok (.ldc 15, 2) := by decide +kernel
theorem dL_rooms_14 : decode cL_rooms 14 = .ok (.ireturn, 1) := by decide +kernel
theorem dL_fetches_0 : decode cL_fetches 0 = .ok (.aload_n 0, 1) := by decide +kernel
theorem dL_fetches_1 : decode cL_fetches 1 = .ok (.iload_n 1, 1) := by decide +kernel
theorem dL_fetches_2 : decode cL_fetches 2 = .ok (.invokevirtual 45, 3) := by decide +kernel
theorem dL_fetches_5 : decode cL_fetches 5 = .ok (.ireturn, 1) := by decide +kernel
theorem dL_fetches_6 : decode cL_fetches 6 = .ok (.astore_n 2, 1) := by decide +kernel
theorem dL_fetches_7 : decode cL_fetches 7 = .ok (.ldc 24, 2) := by decide +kernel
theorem dL_fetches_9 : decode cL_fetches 9 = .ok (.ireturn, 1) := by decide +kernel
theorem dL_held_0 : decode cL_held 0 = .ok (.aload_n 0, 1) := by decide +kernel
theorem dL_held_1 : decode cL_held 1 = .ok (.iload_n 1, 1) := by decide +kernel
theorem dL_held_2 : decode cL_held 2 = .ok (.invokevirtual 48, 3) := by decide +kernel
theorem dL_held_5 : decode cL_held 5 = .ok (.ireturn, 1) := by decide +kernel
theorem dL_held_6 : decode cL_held 6 = .ok (.astore_n 2, 1) := by decide +kernel
theorem dL_held_7 : decode cL_held 7 = .ok (.ldc 24, 2) := by decide +kernel
theorem dL_held_9 : decode cL_held 9 = .ok (.ireturn, 1) := by decide +kernel
theorem dL_holds_0 : decode cL_holds 0 = .ok (.aload_n 0, 1) := by decide +kernel
theorem dL_holds_1 : decode cL_holds 1 = .ok (.iload_n 1, 1) := by decide +kernel
theorem dL_holds_2 : decode cL_holds 2 = .ok (.iload_n 2, 1) := by decide +kernel
theorem dL_holds_3 : decode cL_holds 3 = .ok (.invokevirtual 51, 3) := by decide +kernel
theorem dL_holds_6 : decode cL_holds 6 = .ok (.ifCond .eq 7, 3) := by decide +kernel
theorem dL_holds_9 : decode cL_holds 9 = .ok (.iconst 1, 1) := by decide +kernel
theorem dL_holds_10 : decode cL_holds 10 = .ok (.goto 4, 3) := by decide +kernel
theorem dL_holds_13 : decode cL_holds 13 = .ok (.iconst 0, 1) := by decide +kernel
theorem dL_holds_14 : decode cL_holds 14 = .ok (.ireturn, 1) := by decide +kernel
theorem dL_holds_15 : decode cL_holds 15 = .ok (.astore_n 3, 1) := by decide +kernel
theorem dL_holds_16 : decode cL_holds 16 = .ok (.ldc 24, 2) := by decide +kernel
theorem dL_holds_18 : decode cL_holds 18 = .ok (.ireturn, 1) := by decide +kernel
theorem dL_heldValue_0 : decode cL_heldValue 0 = .ok (.aload_n 0, 1) := by decide +kernel
theorem dL_heldValue_1 : decode cL_heldValue 1 = .ok (.iload_n 1, 1) := by decide +kernel
theorem dL_heldValue_2 : decode cL_heldValue 2 = .ok (.iload_n 2, 1) := by decide +kernel
theorem dL_heldValue_3 : decode cL_heldValue 3 = .ok (.iload_n 3, 1) := by decide +kernel
theorem dL_heldValue_4 : decode cL_heldValue 4 = .ok (.invokevirtual 55, 3) := by decide +kernel
theorem dL_heldValue_7 : decode cL_heldValue 7 = .ok (.ireturn, 1) := by decide +kernel
theorem dL_heldValue_8 : decode cL_heldValue 8 = .ok (.astore 4, 2) := by decide +kernel
theorem dL_heldValue_10 : decode cL_heldValue 10 = .ok (.ldc 24, 2) := by decide +kernel
theorem dL_heldValue_12 : decode cL_heldValue 12 = .ok (.ireturn, 1) := by decide +kernel
theorem dL_heldValue_13 : decode cL_heldValue 13 = .ok (.astore 4, 2) := by decide +kernel
theorem dL_heldValue_15 : decode cL_heldValue 15 = .ok (.ldc 15, 2) := by decide +kernel
theorem dL_heldValue_17 : decode cL_heldValue 17 = .ok (.ireturn, 1) := by decide +kernel
theorem dL_heldValue_18 : decode cL_heldValue 18 = .ok (.astore 4, 2) := by decide +kernel
theorem dL_heldValue_20 : decode cL_heldValue 20 = .ok (.ldc 18, 2) := by decide +kernel
theorem dL_heldValue_22 : decode cL_heldValue 22 = .ok (.ireturn, 1) := by decide +kernel
theorem dL_changes_0 : decode cL_changes 0 = .ok (.aload_n 0, 1) := by decide +kernel
theorem dL_changes_1 : decode cL_changes 1 = .ok (.iload_n 1, 1) := by decide +kernel
theorem dL_changes_2 : decode cL_changes 2 = .ok (.iload_n 2, 1) := by decide +kernel
theorem dL_changes_3 : decode cL_changes 3 = .ok (.iload_n 3, 1) := by decide +kernel
theorem dL_changes_4 : decode cL_changes 4 = .ok (.iload 4, 2) := by decide +kernel
theorem dL_changes_6 : decode cL_changes 6 = .ok (.invokevirtual 58, 3) := by decide +kernel
theorem dL_changes_9 : decode cL_changes 9 = .ok (.ireturn, 1) := by decide +kernel
theorem dL_changes_10 : decode cL_changes 10 = .ok (.astore 5, 2) := by decide +kernel
theorem dL_changes_12 : decode cL_changes 12 = .ok (.ldc 24, 2) := by decide +kernel
theorem dL_changes_14 : decode cL_changes 14 = .ok (.ireturn, 1) := by decide +kernel
theorem dL_changes_15 : decode cL_changes 15 = .ok (.astore 5, 2) := by decide +kernel
theorem dL_changes_17 : decode cL_changes 17 = .ok (.ldc 15, 2) := by decide +kernel
theorem dL_changes_19 : decode cL_changes 19 = .ok (.ireturn, 1) := by decide +kernel
theorem dL_changes_20 : decode cL_changes 20 = .ok (.astore 5, 2) := by decide +kernel
theorem dL_changes_22 : decode cL_changes 22 = .ok (.ldc 18, 2) := by decide +kernel
theorem dL_changes_24 : decode cL_changes 24 = .ok (.ireturn, 1) := by decide +kernel
theorem dL_makes_0 : decode cL_makes 0 = .ok (.aload_n 0, 1) := by decide +kernel
theorem dL_makes_1 : decode cL_makes 1 = .ok (.iload_n 1, 1) := by decide +kernel
theorem dL_makes_2 : decode cL_makes 2 = .ok (.iload_n 2, 1) := by decide +kernel
theorem dL_makes_3 : decode cL_makes 3 = .ok (.invokevirtual 62, 3) := by decide +kernel
theorem dL_makes_6 : decode cL_makes 6 = .ok (.ireturn, 1) := by decide +kernel
theorem dL_makes_7 : decode cL_makes 7 = .ok (.astore_n 3, 1) := by decide +kernel
theorem dL_makes_8 : decode cL_makes 8 = .ok (.ldc 24, 2) := by decide +kernel
theorem dL_makes_10 : decode cL_makes 10 = .ok (.ireturn, 1) := by decide +kernel
theorem dL_makes_11 : decode cL_makes 11 = .ok (.astore_n 3, 1) := by decide +kernel
theorem dL_makes_12 : decode cL_makes 12 = .ok (.ldc 15, 2) := by decide +kernel
theorem dL_makes_14 : decode cL_makes 14 = .ok (.ireturn, 1) := by decide +kernel
theorem dL_number_0 : decode cL_number 0 = .ok (.aload_n 0, 1) := by decide +kernel
theorem dL_number_1 : decode cL_number 1 = .ok (.iload_n 1, 1) := by decide +kernel
theorem dL_number_2 : decode cL_number 2 = .ok (.iload_n 2, 1) := by decide +kernel
theorem dL_number_3 : decode cL_number 3 = .ok (.invokevirtual 65, 3) := by decide +kernel
theorem dL_number_6 : decode cL_number 6 = .ok (.ireturn, 1) := by decide +kernel
theorem dL_number_7 : decode cL_number 7 = .ok (.astore_n 3, 1) := by decide +kernel
theorem dL_number_8 : decode cL_number 8 = .ok (.ldc 24, 2) := by decide +kernel
theorem dL_number_10 : decode cL_number 10 = .ok (.ireturn, 1) := by decide +kernel
theorem dL_number_11 : decode cL_number 11 = .ok (.astore_n 3, 1) := by decide +kernel
theorem dL_number_12 : decode cL_number 12 = .ok (.ldc 15, 2) := by decide +kernel
theorem dL_number_14 : decode cL_number 14 = .ok (.ireturn, 1) := by decide +kernel
theorem dL_sends_0 : decode cL_sends 0 = .ok (.aload_n 0, 1) := by decide +kernel
theorem dL_sends_1 : decode cL_sends 1 = .ok (.iload_n 1, 1) := by decide +kernel
theorem dL_sends_2 : decode cL_sends 2 = .ok (.iload_n 2, 1) := by decide +kernel
theorem dL_sends_3 : decode cL_sends 3 = .ok (.invokevirtual 68, 3) := by decide +kernel
theorem dL_sends_6 : decode cL_sends 6 = .ok (.ireturn, 1) := by decide +kernel
theorem dL_sends_7 : decode cL_sends 7 = .ok (.astore_n 3, 1) := by decide +kernel
theorem dL_sends_8 : decode cL_sends 8 = .ok (.ldc 24, 2) := by decide +kernel
theorem dL_sends_10 : decode cL_sends 10 = .ok (.ireturn, 1) := by decide +kernel
theorem dL_sends_11 : decode cL_sends 11 = .ok (.astore_n 3, 1) := by decide +kernel
theorem dL_sends_12 : decode cL_sends 12 = .ok (.ldc 15, 2) := by decide +kernel
theorem dL_sends_14 : decode cL_sends 14 = .ok (.ireturn, 1) := by decide +kernel
theorem dL_waiting_0 : decode cL_waiting 0 = .ok (.aload_n 0, 1) := by decide +kernel
theorem dL_waiting_1 : decode cL_waiting 1 = .ok (.iload_n 1, 1) := by decide +kernel
theorem dL_waiting_2 : decode cL_waiting 2 = .ok (.invokevirtual 71, 3) := by decide +kernel
theorem dL_waiting_5 : decode cL_waiting 5 = .ok (.ireturn, 1) := by decide +kernel
theorem dL_waiting_6 : decode cL_waiting 6 = .ok (.astore_n 2, 1) := by decide +kernel
theorem dL_waiting_7 : decode cL_waiting 7 = .ok (.ldc 24, 2) := by decide +kernel
theorem dL_waiting_9 : decode cL_waiting 9 = .ok (.ireturn, 1) := by decide +kernel
theorem dL_pile_0 : decode cL_pile 0 = .ok (.aload_n 0, 1) := by decide +kernel
theorem dL_pile_1 : decode cL_pile 1 = .ok (.iload_n 1, 1) := by decide +kernel
theorem dL_pile_2 : decode cL_pile 2 = .ok (.invokevirtual 74, 3) := by decide +kernel
theorem dL_pile_5 : decode cL_pile 5 = .ok (.ireturn, 1) := by decide +kernel
theorem dL_pile_6 : decode cL_pile 6 = .ok (.astore_n 2, 1) := by decide +kernel
theorem dL_pile_7 : decode cL_pile 7 = .ok (.ldc 24, 2) := by decide +kernel
theorem dL_pile_9 : decode cL_pile 9 = .ok (.ireturn, 1) := by decide +kernel
theorem dL_reason_0 : decode cL_reason 0 = .ok (.aload_n 0, 1) := by decide +kernel
theorem dL_reason_1 : decode cL_reason 1 = .ok (.iload_n 1, 1) := by decide +kernel
theorem dL_reason_2 : decode cL_reason 2 = .ok (.iload_n 2, 1) := by decide +kernel
theorem dL_reason_3 : decode cL_reason 3 = .ok (.invokevirtual 77, 3) := by decide +kernel
theorem dL_reason_6 : decode cL_reason 6 = .ok (.ireturn, 1) := by decide +kernel
theorem dL_reason_7 : decode cL_reason 7 = .ok (.astore_n 3, 1) := by decide +kernel
theorem dL_reason_8 : decode cL_reason 8 = .ok (.ldc 24, 2) := by decide +kernel
theorem dL_reason_10 : decode cL_reason 10 = .ok (.ireturn, 1) := by decide +kernel
theorem dL_refused_0 : decode cL_refused 0 = .ok (.aload_n 0, 1) := by decide +kernel
theorem dL_refused_1 : decode cL_refused 1 = .ok (.iload_n 1, 1) := by decide +kernel
theorem dL_refused_2 : decode cL_refused 2 = .ok (.iload_n 2, 1) := by decide +kernel
theorem dL_refused_3 : decode cL_refused 3 = .ok (.invokevirtual 80, 3) := by decide +kernel
theorem dL_refused_6 : decode cL_refused 6 = .ok (.ireturn, 1) := by decide +kernel
theorem dL_refused_7 : decode cL_refused 7 = .ok (.astore_n 3, 1) := by decide +kernel
theorem dL_refused_8 : decode cL_refused 8 = .ok (.ldc 24, 2) := by decide +kernel
theorem dL_refused_10 : decode cL_refused 10 = .ok (.ireturn, 1) := by decide +kernel
theorem dL_drawn_0 : decode cL_drawn 0 = .ok (.iload_n 1, 1) := by decide +kernel
theorem dL_drawn_1 : decode cL_drawn 1 = .ok (.aload_n 0, 1) := by decide +kernel
theorem dL_drawn_2 : decode cL_drawn 2 = .ok (.arraylength, 1) := by decide +kernel
theorem dL_drawn_3 : decode cL_drawn 3 = .ok (.if_icmp .ge 9, 3) := by decide +kernel
theorem dL_drawn_6 : decode cL_drawn 6 = .ok (.aload_n 0, 1) := by decide +kernel
theorem dL_drawn_7 : decode cL_drawn 7 = .ok (.iload_n 1, 1) := by decide +kernel
theorem dL_drawn_8 : decode cL_drawn 8 = .ok (.iaload, 1) := by decide +kernel
theorem dL_drawn_9 : decode cL_drawn 9 = .ok (.goto 13, 3) := by decide +kernel
theorem dL_drawn_12 : decode cL_drawn 12 = .ok (.ldc 83, 2) := by decide +kernel
theorem dL_drawn_14 : decode cL_drawn 14 = .ok (.iload_n 1, 1) := by decide +kernel
theorem dL_drawn_15 : decode cL_drawn 15 = .ok (.iconst 3, 1) := by decide +kernel
theorem dL_drawn_16 : decode cL_drawn 16 = .ok (.iadd, 1) := by decide +kernel
theorem dL_drawn_17 : decode cL_drawn 17 = .ok (.imul, 1) := by decide +kernel
theorem dL_drawn_18 : decode cL_drawn 18 = .ok (.sipush 13759, 3) := by decide +kernel
theorem dL_drawn_21 : decode cL_drawn 21 = .ok (.iadd, 1) := by decide +kernel
theorem dL_drawn_22 : decode cL_drawn 22 = .ok (.ldc 84, 2) := by decide +kernel
theorem dL_drawn_24 : decode cL_drawn 24 = .ok (.iand, 1) := by decide +kernel
theorem dL_drawn_25 : decode cL_drawn 25 = .ok (.ireturn, 1) := by decide +kernel
theorem dL_refuses_0 : decode cL_refuses 0 = .ok (.iload_n 2, 1) := by decide +kernel
theorem dL_refuses_1 : decode cL_refuses 1 = .ok (.iconst 2, 1) := by decide +kernel
theorem dL_refuses_2 : decode cL_refuses 2 = .ok (.irem, 1) := by decide +kernel
theorem dL_refuses_3 : decode cL_refuses 3 = .ok (.ifCond .ne 12, 3) := by decide +kernel
theorem dL_refuses_6 : decode cL_refuses 6 = .ok (.iconst (-1), 1) := by decide +kernel
theorem dL_refuses_7 : decode cL_refuses 7 = .ok (.iload_n 2, 1) := by decide +kernel
theorem dL_refuses_8 : decode cL_refuses 8 = .ok (.bipush 50, 2) := by decide +kernel
theorem dL_refuses_10 : decode cL_refuses 10 = .ok (.irem, 1) := by decide +kernel
theorem dL_refuses_11 : decode cL_refuses 11 = .ok (.isub, 1) := by decide +kernel
theorem dL_refuses_12 : decode cL_refuses 12 = .ok (.goto 12, 3) := by decide +kernel
theorem dL_refuses_15 : decode cL_refuses 15 = .ok (.aload_n 0, 1) := by decide +kernel
theorem dL_refuses_16 : decode cL_refuses 16 = .ok (.invokevirtual 85, 3) := by decide +kernel
theorem dL_refuses_19 : decode cL_refuses 19 = .ok (.iload_n 2, 1) := by decide +kernel
theorem dL_refuses_20 : decode cL_refuses 20 = .ok (.bipush 50, 2) := by decide +kernel
theorem dL_refuses_22 : decode cL_refuses 22 = .ok (.irem, 1) := by decide +kernel
theorem dL_refuses_23 : decode cL_refuses 23 = .ok (.iadd, 1) := by decide +kernel
theorem dL_refuses_24 : decode cL_refuses 24 = .ok (.istore_n 3, 1) := by decide +kernel
theorem dL_refuses_25 : decode cL_refuses 25 = .ok (.iload_n 2, 1) := by decide +kernel
theorem dL_refuses_26 : decode cL_refuses 26 = .ok (.iconst 2, 1) := by decide +kernel
theorem dL_refuses_27 : decode cL_refuses 27 = .ok (.irem, 1) := by decide +kernel
theorem dL_refuses_28 : decode cL_refuses 28 = .ok (.ifCond .ne 12, 3) := by decide +kernel
theorem dL_refuses_31 : decode cL_refuses 31 = .ok (.iconst (-1), 1) := by decide +kernel
theorem dL_refuses_32 : decode cL_refuses 32 = .ok (.iload_n 2, 1) := by decide +kernel
theorem dL_refuses_33 : decode cL_refuses 33 = .ok (.bipush 50, 2) := by decide +kernel
theorem dL_refuses_35 : decode cL_refuses 35 = .ok (.irem, 1) := by decide +kernel
theorem dL_refuses_36 : decode cL_refuses 36 = .ok (.isub, 1) := by decide +kernel
theorem dL_refuses_37 : decode cL_refuses 37 = .ok (.goto 9, 3) := by decide +kernel
theorem dL_refuses_40 : decode cL_refuses 40 = .ok (.iconst 4, 1) := by decide +kernel
theorem dL_refuses_41 : decode cL_refuses 41 = .ok (.iload_n 2, 1) := by decide +kernel
theorem dL_refuses_42 : decode cL_refuses 42 = .ok (.bipush 50, 2) := by decide +kernel
theorem dL_refuses_44 : decode cL_refuses 44 = .ok (.irem, 1) := by decide +kernel
theorem dL_refuses_45 : decode cL_refuses 45 = .ok (.iadd, 1) := by decide +kernel
theorem dL_refuses_46 : decode cL_refuses 46 = .ok (.istore 4, 2) := by decide +kernel
theorem dL_refuses_48 : decode cL_refuses 48 = .ok (.iload_n 2, 1) := by decide +kernel
theorem dL_refuses_49 : decode cL_refuses 49 = .ok (.iconst 4, 1) := by decide +kernel
theorem dL_refuses_50 : decode cL_refuses 50 = .ok (.irem, 1) := by decide +kernel
theorem dL_refuses_51 : decode cL_refuses 51 = .ok (.istore 5, 2) := by decide +kernel
theorem dL_refuses_53 : decode cL_refuses 53 = .ok (.aload_n 0, 1) := by decide +kernel
theorem dL_refuses_54 : decode cL_refuses 54 = .ok (.iload 4, 2) := by decide +kernel
theorem dL_refuses_56 : decode cL_refuses 56 = .ok (.iconst 0, 1) := by decide +kernel
theorem dL_refuses_57 : decode cL_refuses 57 = .ok (.invokestatic 89, 3) := by decide +kernel
theorem dL_refuses_60 : decode cL_refuses 60 = .ok (.ldc 15, 2) := by decide +kernel
theorem dL_refuses_62 : decode cL_refuses 62 = .ok (.if_icmp .ne 591, 3) := by decide +kernel
theorem dL_refuses_65 : decode cL_refuses 65 = .ok (.aload_n 0, 1) := by decide +kernel
theorem dL_refuses_66 : decode cL_refuses 66 = .ok (.iload 5, 2) := by decide +kernel
theorem dL_refuses_68 : decode cL_refuses 68 = .ok (.bipush 10, 2) := by decide +kernel
theorem dL_refuses_70 : decode cL_refuses 70 = .ok (.iload_n 2, 1) := by decide +kernel
theorem dL_refuses_71 : decode cL_refuses 71 = .ok (.iadd, 1) := by decide +kernel
theorem dL_refuses_72 : decode cL_refuses 72 = .ok (.invokestatic 89, 3) := by decide +kernel
theorem dL_refuses_75 : decode cL_refuses 75 = .ok (.ldc 15, 2) := by decide +kernel
theorem dL_refuses_77 : decode cL_refuses 77 = .ok (.if_icmp .ne 576, 3) := by decide +kernel
theorem dL_refuses_80 : decode cL_refuses 80 = .ok (.aload_n 0, 1) := by decide +kernel
theorem dL_refuses_81 : decode cL_refuses 81 = .ok (.iload 5, 2) := by decide +kernel
theorem dL_refuses_83 : decode cL_refuses 83 = .ok (.iconst (-1), 1) := by decide +kernel
theorem dL_refuses_84 : decode cL_refuses 84 = .ok (.iload_n 2, 1) := by decide +kernel
theorem dL_refuses_85 : decode cL_refuses 85 = .ok (.isub, 1) := by decide +kernel
theorem dL_refuses_86 : decode cL_refuses 86 = .ok (.invokestatic 89, 3) := by decide +kernel
theorem dL_refuses_89 : decode cL_refuses 89 = .ok (.ldc 15, 2) := by decide +kernel
theorem dL_refuses_91 : decode cL_refuses 91 = .ok (.if_icmp .ne 562, 3) := by decide +kernel
theorem dL_refuses_94 : decode cL_refuses 94 = .ok (.aload_n 0, 1) := by decide +kernel
theorem dL_refuses_95 : decode cL_refuses 95 = .ok (.iload_n 3, 1) := by decide +kernel
theorem dL_refuses_96 : decode cL_refuses 96 = .ok (.bipush 9, 2) := by decide +kernel
theorem dL_refuses_98 : decode cL_refuses 98 = .ok (.invokestatic 95, 3) := by decide +kernel
theorem dL_refuses_101 : decode cL_refuses 101 = .ok (.ldc 24, 2) := by decide +kernel
theorem dL_refuses_103 : decode cL_refuses 103 = .ok (.if_icmp .ne 550, 3) := by decide +kernel
theorem dL_refuses_106 : decode cL_refuses 106 = .ok (.aload_n 0, 1) := by decide +kernel
theorem dL_refuses_107 : decode cL_refuses 107 = .ok (.iload_n 3, 1) := by decide +kernel
theorem dL_refuses_108 : decode cL_refuses 108 = .ok (.bipush 9, 2) := by decide +kernel
theorem dL_refuses_110 : decode cL_refuses 110 = .ok (.bipush 9, 2) := by decide +kernel
theorem dL_refuses_112 : decode cL_refuses 112 = .ok (.invokestatic 98, 3) := by decide +kernel
theorem dL_refuses_115 : decode cL_refuses 115 = .ok (.ldc 24, 2) := by decide +kernel
theorem dL_refuses_117 : decode cL_refuses 117 = .ok (.if_icmp .ne 536, 3) := by decide +kernel
theorem dL_refuses_120 : decode cL_refuses 120 = .ok (.aload_n 0, 1) := by decide +kernel
theorem dL_refuses_121 : decode cL_refuses 121 = .ok (.iload_n 3, 1) := by decide +kernel
theorem dL_refuses_122 : decode cL_refuses 122 = .ok (.invokestatic 102, 3) := by decide +kernel
theorem dL_refuses_125 : decode cL_refuses 125 = .ok (.ldc 24, 2) := by decide +kernel
theorem dL_refuses_127 : decode cL_refuses 127 = .ok (.if_icmp .ne 526, 3) := by decide +kernel
theorem dL_refuses_130 : decode cL_refuses 130 = .ok (.aload_n 0, 1) := by decide +kernel
theorem dL_refuses_131 : decode cL_refuses 131 = .ok (.iload_n 3, 1) := by decide +kernel
theorem dL_refuses_132 : decode cL_refuses 132 = .ok (.invokestatic 105, 3) := by decide +kernel
theorem dL_refuses_135 : decode cL_refuses 135 = .ok (.ldc 24, 2) := by decide +kernel
theorem dL_refuses_137 : decode cL_refuses 137 = .ok (.if_icmp .ne 516, 3) := by decide +kernel
theorem dL_refuses_140 : decode cL_refuses 140 = .ok (.aload_n 0, 1) := by decide +kernel
theorem dL_refuses_141 : decode cL_refuses 141 = .ok (.iload_n 3, 1) := by decide +kernel
theorem dL_refuses_142 : decode cL_refuses 142 = .ok (.bipush 9, 2) := by decide +kernel
theorem dL_refuses_144 : decode cL_refuses 144 = .ok (.invokestatic 107, 3) := by decide +kernel
theorem dL_refuses_147 : decode cL_refuses 147 = .ok (.ldc 24, 2) := by decide +kernel
theorem dL_refuses_149 : decode cL_refuses 149 = .ok (.if_icmp .ne 504, 3) := by decide +kernel
theorem dL_refuses_152 : decode cL_refuses 152 = .ok (.aload_n 0, 1) := by decide +kernel
theorem dL_refuses_153 : decode cL_refuses 153 = .ok (.iload_n 3, 1) := by decide +kernel
theorem dL_refuses_154 : decode cL_refuses 154 = .ok (.iconst 0, 1) := by decide +kernel
theorem dL_refuses_155 : decode cL_refuses 155 = .ok (.invokestatic 109, 3) := by decide +kernel
theorem dL_refuses_158 : decode cL_refuses 158 = .ok (.ldc 24, 2) := by decide +kernel
theorem dL_refuses_160 : decode cL_refuses 160 = .ok (.if_icmp .ne 493, 3) := by decide +kernel
theorem dL_refuses_163 : decode cL_refuses 163 = .ok (.aload_n 0, 1) := by decide +kernel
theorem dL_refuses_164 : decode cL_refuses 164 = .ok (.iload 4, 2) := by decide +kernel
theorem dL_refuses_166 : decode cL_refuses 166 = .ok (.bipush 99, 2) := by decide +kernel
theorem dL_refuses_168 : decode cL_refuses 168 = .ok (.invokestatic 111, 3) := by decide +kernel
theorem dL_refuses_171 : decode cL_refuses 171 = .ok (.ldc 24, 2) := by decide +kernel
theorem dL_refuses_173 : decode cL_refuses 173 = .ok (.if_icmp .ne 480, 3) := by decide +kernel
theorem dL_refuses_176 : decode cL_refuses 176 = .ok (.aload_n 0, 1) := by decide +kernel
theorem dL_refuses_177 : decode cL_refuses 177 = .ok (.iload 5, 2) := by decide +kernel
theorem dL_refuses_179 : decode cL_refuses 179 = .ok (.bipush 41, 2) := by decide +kernel
theorem dL_refuses_181 : decode cL_refuses 181 = .ok (.iload_n 2, 1) := by decide +kernel
theorem dL_refuses_182 : decode cL_refuses 182 = .ok (.iadd, 1) := by decide +kernel
theorem dL_refuses_183 : decode cL_refuses 183 = .ok (.invokestatic 111, 3) := by decide +kernel
theorem dL_refuses_186 : decode cL_refuses 186 = .ok (.ldc 15, 2) := by decide +kernel
theorem dL_refuses_188 : decode cL_refuses 188 = .ok (.if_icmp .ne 465, 3) := by decide +kernel
theorem dL_refuses_191 : decode cL_refuses 191 = .ok (.aload_n 0, 1) := by decide +kernel
theorem dL_refuses_192 : decode cL_refuses 192 = .ok (.iload 5, 2) := by decide +kernel
theorem dL_refuses_194 : decode cL_refuses 194 = .ok (.iconst (-1), 1) := by decide +kernel
theorem dL_refuses_195 : decode cL_refuses 195 = .ok (.iload_n 2, 1) := by decide +kernel
theorem dL_refuses_196 : decode cL_refuses 196 = .ok (.isub, 1) := by decide +kernel
theorem dL_refuses_197 : decode cL_refuses 197 = .ok (.invokestatic 111, 3) := by decide +kernel
theorem dL_refuses_200 : decode cL_refuses 200 = .ok (.ldc 15, 2) := by decide +kernel
theorem dL_refuses_202 : decode cL_refuses 202 = .ok (.if_icmp .ne 451, 3) := by decide +kernel
theorem dL_refuses_205 : decode cL_refuses 205 = .ok (.aload_n 0, 1) := by decide +kernel
theorem dL_refuses_206 : decode cL_refuses 206 = .ok (.iload 4, 2) := by decide +kernel
theorem dL_refuses_208 : decode cL_refuses 208 = .ok (.invokestatic 114, 3) := by decide +kernel
theorem dL_refuses_211 : decode cL_refuses 211 = .ok (.ldc 24, 2) := by decide +kernel
theorem dL_refuses_213 : decode cL_refuses 213 = .ok (.if_icmp .ne 440, 3) := by decide +kernel
theorem dL_refuses_216 : decode cL_refuses 216 = .ok (.aload_n 0, 1) := by decide +kernel
theorem dL_refuses_217 : decode cL_refuses 217 = .ok (.iload 4, 2) := by decide +kernel
theorem dL_refuses_219 : decode cL_refuses 219 = .ok (.invokestatic 117, 3) := by decide +kernel
theorem dL_refuses_222 : decode cL_refuses 222 = .ok (.ldc 24, 2) := by decide +kernel
theorem dL_refuses_224 : decode cL_refuses 224 = .ok (.if_icmp .ne 429, 3) := by decide +kernel
theorem dL_refuses_227 : decode cL_refuses 227 = .ok (.aload_n 0, 1) := by decide +kernel
theorem dL_refuses_228 : decode cL_refuses 228 = .ok (.iload 4, 2) := by decide +kernel
theorem dL_refuses_230 : decode cL_refuses 230 = .ok (.iconst 0, 1) := by decide +kernel
theorem dL_refuses_231 : decode cL_refuses 231 = .ok (.invokestatic 119, 3) := by decide +kernel
theorem dL_refuses_234 : decode cL_refuses 234 = .ok (.ldc 24, 2) := by decide +kernel
theorem dL_refuses_236 : decode cL_refuses 236 = .ok (.if_icmp .ne 417, 3) := by decide +kernel
theorem dL_refuses_239 : decode cL_refuses 239 = .ok (.aload_n 0, 1) := by decide +kernel
theorem dL_refuses_240 : decode cL_refuses 240 = .ok (.iload 4, 2) := by decide +kernel
theorem dL_refuses_242 : decode cL_refuses 242 = .ok (.iconst 0, 1) := by decide +kernel
theorem dL_refuses_243 : decode cL_refuses 243 = .ok (.bipush 9, 2) := by decide +kernel
theorem dL_refuses_245 : decode cL_refuses 245 = .ok (.invokestatic 121, 3) := by decide +kernel
theorem dL_refuses_248 : decode cL_refuses 248 = .ok (.ldc 24, 2) := by decide +kernel
theorem dL_refuses_250 : decode cL_refuses 250 = .ok (.if_icmp .ne 403, 3) := by decide +kernel
theorem dL_refuses_253 : decode cL_refuses 253 = .ok (.aload_n 0, 1) := by decide +kernel
theorem dL_refuses_254 : decode cL_refuses 254 = .ok (.iload 5, 2) := by decide +kernel
theorem dL_refuses_256 : decode cL_refuses 256 = .ok (.iconst 0, 1) := by decide +kernel
theorem dL_refuses_257 : decode cL_refuses 257 = .ok (.iconst 2, 1) := by decide +kernel
theorem dL_refuses_258 : decode cL_refuses 258 = .ok (.iload_n 2, 1) := by decide +kernel
theorem dL_refuses_259 : decode cL_refuses 259 = .ok (.iadd, 1) := by decide +kernel
theorem dL_refuses_260 : decode cL_refuses 260 = .ok (.invokestatic 121, 3) := by decide +kernel
theorem dL_refuses_263 : decode cL_refuses 263 = .ok (.ldc 15, 2) := by decide +kernel
theorem dL_refuses_265 : decode cL_refuses 265 = .ok (.if_icmp .ne 388, 3) := by decide +kernel
theorem dL_refuses_268 : decode cL_refuses 268 = .ok (.aload_n 0, 1) := by decide +kernel
theorem dL_refuses_269 : decode cL_refuses 269 = .ok (.iload 5, 2) := by decide +kernel
theorem dL_refuses_271 : decode cL_refuses 271 = .ok (.iload_n 3, 1) := by decide +kernel
theorem dL_refuses_272 : decode cL_refuses 272 = .ok (.iconst 0, 1) := by decide +kernel
theorem dL_refuses_273 : decode cL_refuses 273 = .ok (.invokestatic 121, 3) := by decide +kernel
theorem dL_refuses_276 : decode cL_refuses 276 = .ok (.ldc 18, 2) := by decide +kernel
theorem dL_refuses_278 : decode cL_refuses 278 = .ok (.if_icmp .ne 375, 3) := by decide +kernel
theorem dL_refuses_281 : decode cL_refuses 281 = .ok (.aload_n 0, 1) := by decide +kernel
theorem dL_refuses_282 : decode cL_refuses 282 = .ok (.iload 5, 2) := by decide +kernel
theorem dL_refuses_284 : decode cL_refuses 284 = .ok (.sipush 1000, 3) := by decide +kernel
theorem dL_refuses_287 : decode cL_refuses 287 = .ok (.aload_n 1, 1) := by decide +kernel
theorem dL_refuses_288 : decode cL_refuses 288 = .ok (.iload 5, 2) := by decide +kernel
theorem dL_refuses_290 : decode cL_refuses 290 = .ok (.iaload, 1) := by decide +kernel
theorem dL_refuses_291 : decode cL_refuses 291 = .ok (.iadd, 1) := by decide +kernel
theorem dL_refuses_292 : decode cL_refuses 292 = .ok (.iconst 1, 1) := by decide +kernel
theorem dL_refuses_293 : decode cL_refuses 293 = .ok (.invokestatic 121, 3) := by decide +kernel
theorem dL_refuses_296 : decode cL_refuses 296 = .ok (.ldc 18, 2) := by decide +kernel
theorem dL_refuses_298 : decode cL_refuses 298 = .ok (.if_icmp .ne 355, 3) := by decide +kernel
theorem dL_refuses_301 : decode cL_refuses 301 = .ok (.aload_n 0, 1) := by decide +kernel
theorem dL_refuses_302 : decode cL_refuses 302 = .ok (.iload 4, 2) := by decide +kernel
theorem dL_refuses_304 : decode cL_refuses 304 = .ok (.iconst 0, 1) := by decide +kernel
theorem dL_refuses_305 : decode cL_refuses 305 = .ok (.bipush 9, 2) := by decide +kernel
theorem dL_refuses_307 : decode cL_refuses 307 = .ok (.bipush 9, 2) := by decide +kernel
theorem dL_refuses_309 : decode cL_refuses 309 = .ok (.invokestatic 123, 3) := by decide +kernel
theorem dL_refuses_312 : decode cL_refuses 312 = .ok (.ldc 24, 2) := by decide +kernel
theorem dL_refuses_314 : decode cL_refuses 314 = .ok (.if_icmp .ne 339, 3) := by decide +kernel
theorem dL_refuses_317 : decode cL_refuses 317 = .ok (.aload_n 0, 1) := by decide +kernel
theorem dL_refuses_318 : decode cL_refuses 318 = .ok (.iload 5, 2) := by decide +kernel
theorem dL_refuses_320 : decode cL_refuses 320 = .ok (.iconst 0, 1) := by decide +kernel
theorem dL_refuses_321 : decode cL_refuses 321 = .ok (.iconst 2, 1) := by decide +kernel
theorem dL_refuses_322 : decode cL_refuses 322 = .ok (.iload_n 2, 1) := by decide +kernel
theorem dL_refuses_323 : decode cL_refuses 323 = .ok (.iadd, 1) := by decide +kernel
theorem dL_refuses_324 : decode cL_refuses 324 = .ok (.iconst 0, 1) := by decide +kernel
theorem dL_refuses_325 : decode cL_refuses 325 = .ok (.invokestatic 123, 3) := by decide +kernel
theorem dL_refuses_328 : decode cL_refuses 328 = .ok (.ldc 15, 2) := by decide +kernel
theorem dL_refuses_330 : decode cL_refuses 330 = .ok (.if_icmp .ne 323, 3) := by decide +kernel
theorem dL_refuses_333 : decode cL_refuses 333 = .ok (.aload_n 0, 1) := by decide +kernel
theorem dL_refuses_334 : decode cL_refuses 334 = .ok (.iload 5, 2) := by decide +kernel
theorem dL_refuses_336 : decode cL_refuses 336 = .ok (.iconst 0, 1) := by decide +kernel
theorem dL_refuses_337 : decode cL_refuses 337 = .ok (.iconst 0, 1) := by decide +kernel
theorem dL_refuses_338 : decode cL_refuses 338 = .ok (.iconst 3, 1) := by decide +kernel
theorem dL_refuses_339 : decode cL_refuses 339 = .ok (.iload_n 2, 1) := by decide +kernel
theorem dL_refuses_340 : decode cL_refuses 340 = .ok (.iadd, 1) := by decide +kernel
theorem dL_refuses_341 : decode cL_refuses 341 = .ok (.invokestatic 123, 3) := by decide +kernel
theorem dL_refuses_344 : decode cL_refuses 344 = .ok (.ldc 15, 2) := by decide +kernel
theorem dL_refuses_346 : decode cL_refuses 346 = .ok (.if_icmp .ne 307, 3) := by decide +kernel
theorem dL_refuses_349 : decode cL_refuses 349 = .ok (.aload_n 0, 1) := by decide +kernel
theorem dL_refuses_350 : decode cL_refuses 350 = .ok (.iload 5, 2) := by decide +kernel
theorem dL_refuses_352 : decode cL_refuses 352 = .ok (.iconst 0, 1) := by decide +kernel
theorem dL_refuses_353 : decode cL_refuses 353 = .ok (.iconst 1, 1) := by decide +kernel
theorem dL_refuses_354 : decode cL_refuses 354 = .ok (.sipush 10001, 3) := by decide +kernel
theorem dL_refuses_357 : decode cL_refuses 357 = .ok (.iload_n 2, 1) := by decide +kernel
theorem dL_refuses_358 : decode cL_refuses 358 = .ok (.iadd, 1) := by decide +kernel
theorem dL_refuses_359 : decode cL_refuses 359 = .ok (.invokestatic 123, 3) := by decide +kernel
theorem dL_refuses_362 : decode cL_refuses 362 = .ok (.ldc 15, 2) := by decide +kernel
theorem dL_refuses_364 : decode cL_refuses 364 = .ok (.if_icmp .ne 289, 3) := by decide +kernel
theorem dL_refuses_367 : decode cL_refuses 367 = .ok (.aload_n 0, 1) := by decide +kernel
theorem dL_refuses_368 : decode cL_refuses 368 = .ok (.iload 5, 2) := by decide +kernel
theorem dL_refuses_370 : decode cL_refuses 370 = .ok (.iconst 0, 1) := by decide +kernel
theorem dL_refuses_371 : decode cL_refuses 371 = .ok (.iconst 1, 1) := by decide +kernel
theorem dL_refuses_372 : decode cL_refuses 372 = .ok (.iconst (-1), 1) := by decide +kernel
theorem dL_refuses_373 : decode cL_refuses 373 = .ok (.iload_n 2, 1) := by decide +kernel
theorem dL_refuses_374 : decode cL_refuses 374 = .ok (.isub, 1) := by decide +kernel
theorem dL_refuses_375 : decode cL_refuses 375 = .ok (.invokestatic 123, 3) := by decide +kernel
theorem dL_refuses_378 : decode cL_refuses 378 = .ok (.ldc 15, 2) := by decide +kernel
theorem dL_refuses_380 : decode cL_refuses 380 = .ok (.if_icmp .ne 273, 3) := by decide +kernel
theorem dL_refuses_383 : decode cL_refuses 383 = .ok (.aload_n 0, 1) := by decide +kernel
theorem dL_refuses_384 : decode cL_refuses 384 = .ok (.iload 5, 2) := by decide +kernel
theorem dL_refuses_386 : decode cL_refuses 386 = .ok (.iload_n 3, 1) := by decide +kernel
theorem dL_refuses_387 : decode cL_refuses 387 = .ok (.iconst 0, 1) := by decide +kernel
theorem dL_refuses_388 : decode cL_refuses 388 = .ok (.iconst 1, 1) := by decide +kernel
theorem dL_refuses_389 : decode cL_refuses 389 = .ok (.invokestatic 123, 3) := by decide +kernel
theorem dL_refuses_392 : decode cL_refuses 392 = .ok (.ldc 18, 2) := by decide +kernel
theorem dL_refuses_394 : decode cL_refuses 394 = .ok (.if_icmp .ne 259, 3) := by decide +kernel
theorem dL_refuses_397 : decode cL_refuses 397 = .ok (.aload_n 0, 1) := by decide +kernel
theorem dL_refuses_398 : decode cL_refuses 398 = .ok (.iload 5, 2) := by decide +kernel
theorem dL_refuses_400 : decode cL_refuses 400 = .ok (.sipush 1000, 3) := by decide +kernel
theorem dL_refuses_403 : decode cL_refuses 403 = .ok (.aload_n 1, 1) := by decide +kernel
theorem dL_refuses_404 : decode cL_refuses 404 = .ok (.iload 5, 2) := by decide +kernel
theorem dL_refuses_406 : decode cL_refuses 406 = .ok (.iaload, 1) := by decide +kernel
theorem dL_refuses_407 : decode cL_refuses 407 = .ok (.iadd, 1) := by decide +kernel
theorem dL_refuses_408 : decode cL_refuses 408 = .ok (.iload_n 2, 1) := by decide +kernel
theorem dL_refuses_409 : decode cL_refuses 409 = .ok (.iadd, 1) := by decide +kernel
theorem dL_refuses_410 : decode cL_refuses 410 = .ok (.iconst 0, 1) := by decide +kernel
theorem dL_refuses_411 : decode cL_refuses 411 = .ok (.iconst 1, 1) := by decide +kernel
theorem dL_refuses_412 : decode cL_refuses 412 = .ok (.invokestatic 123, 3) := by decide +kernel
theorem dL_refuses_415 : decode cL_refuses 415 = .ok (.ldc 18, 2) := by decide +kernel
theorem dL_refuses_417 : decode cL_refuses 417 = .ok (.if_icmp .ne 236, 3) := by decide +kernel
theorem dL_refuses_420 : decode cL_refuses 420 = .ok (.aload_n 0, 1) := by decide +kernel
theorem dL_refuses_421 : decode cL_refuses 421 = .ok (.iload 4, 2) := by decide +kernel
theorem dL_refuses_423 : decode cL_refuses 423 = .ok (.bipush 99, 2) := by decide +kernel
theorem dL_refuses_425 : decode cL_refuses 425 = .ok (.invokestatic 127, 3) := by decide +kernel
theorem dL_refuses_428 : decode cL_refuses 428 = .ok (.ldc 24, 2) := by decide +kernel
theorem dL_refuses_430 : decode cL_refuses 430 = .ok (.if_icmp .ne 223, 3) := by decide +kernel
theorem dL_refuses_433 : decode cL_refuses 433 = .ok (.aload_n 0, 1) := by decide +kernel
theorem dL_refuses_434 : decode cL_refuses 434 = .ok (.iload 5, 2) := by decide +kernel
theorem dL_refuses_436 : decode cL_refuses 436 = .ok (.bipush 10, 2) := by decide +kernel
theorem dL_refuses_438 : decode cL_refuses 438 = .ok (.iload_n 2, 1) := by decide +kernel
theorem dL_refuses_439 : decode cL_refuses 439 = .ok (.iadd, 1) := by decide +kernel
theorem dL_refuses_440 : decode cL_refuses 440 = .ok (.invokestatic 127, 3) := by decide +kernel
theorem dL_refuses_443 : decode cL_refuses 443 = .ok (.ldc 15, 2) := by decide +kernel
theorem dL_refuses_445 : decode cL_refuses 445 = .ok (.if_icmp .ne 208, 3) := by decide +kernel
theorem dL_refuses_448 : decode cL_refuses 448 = .ok (.aload_n 0, 1) := by decide +kernel
theorem dL_refuses_449 : decode cL_refuses 449 = .ok (.iload 4, 2) := by decide +kernel
theorem dL_refuses_451 : decode cL_refuses 451 = .ok (.sipush 1000, 3) := by decide +kernel
theorem dL_refuses_454 : decode cL_refuses 454 = .ok (.invokestatic 130, 3) := by decide +kernel
theorem dL_refuses_457 : decode cL_refuses 457 = .ok (.ldc 24, 2) := by decide +kernel
theorem dL_refuses_459 : decode cL_refuses 459 = .ok (.if_icmp .ne 194, 3) := by decide +kernel
theorem dL_refuses_462 : decode cL_refuses 462 = .ok (.aload_n 0, 1) := by decide +kernel
theorem dL_refuses_463 : decode cL_refuses 463 = .ok (.iload 5, 2) := by decide +kernel
theorem dL_refuses_465 : decode cL_refuses 465 = .ok (.sipush 1000, 3) := by decide +kernel
theorem dL_refuses_468 : decode cL_refuses 468 = .ok (.aload_n 1, 1) := by decide +kernel
theorem dL_refuses_469 : decode cL_refuses 469 = .ok (.iload 5, 2) := by decide +kernel
theorem dL_refuses_471 : decode cL_refuses 471 = .ok (.iaload, 1) := by decide +kernel
theorem dL_refuses_472 : decode cL_refuses 472 = .ok (.iadd, 1) := by decide +kernel
theorem dL_refuses_473 : decode cL_refuses 473 = .ok (.iload_n 2, 1) := by decide +kernel
theorem dL_refuses_474 : decode cL_refuses 474 = .ok (.iadd, 1) := by decide +kernel
theorem dL_refuses_475 : decode cL_refuses 475 = .ok (.invokestatic 130, 3) := by decide +kernel
theorem dL_refuses_478 : decode cL_refuses 478 = .ok (.ldc 15, 2) := by decide +kernel
theorem dL_refuses_480 : decode cL_refuses 480 = .ok (.if_icmp .ne 173, 3) := by decide +kernel
theorem dL_refuses_483 : decode cL_refuses 483 = .ok (.aload_n 0, 1) := by decide +kernel
theorem dL_refuses_484 : decode cL_refuses 484 = .ok (.iload 5, 2) := by decide +kernel
theorem dL_refuses_486 : decode cL_refuses 486 = .ok (.sipush 999, 3) := by decide +kernel
theorem dL_refuses_489 : decode cL_refuses 489 = .ok (.iload_n 2, 1) := by decide +kernel
theorem dL_refuses_490 : decode cL_refuses 490 = .ok (.isub, 1) := by decide +kernel
theorem dL_refuses_491 : decode cL_refuses 491 = .ok (.invokestatic 130, 3) := by decide +kernel
theorem dL_refuses_494 : decode cL_refuses 494 = .ok (.ldc 15, 2) := by decide +kernel
theorem dL_refuses_496 : decode cL_refuses 496 = .ok (.if_icmp .ne 157, 3) := by decide +kernel
theorem dL_refuses_499 : decode cL_refuses 499 = .ok (.aload_n 0, 1) := by decide +kernel
theorem dL_refuses_500 : decode cL_refuses 500 = .ok (.iload 4, 2) := by decide +kernel
theorem dL_refuses_502 : decode cL_refuses 502 = .ok (.iconst 0, 1) := by decide +kernel
theorem dL_refuses_503 : decode cL_refuses 503 = .ok (.invokestatic 133, 3) := by decide +kernel
theorem dL_refuses_506 : decode cL_refuses 506 = .ok (.ldc 24, 2) := by decide +kernel
theorem dL_refuses_508 : decode cL_refuses 508 = .ok (.if_icmp .ne 145, 3) := by decide +kernel
theorem dL_refuses_511 : decode cL_refuses 511 = .ok (.aload_n 0, 1) := by decide +kernel
theorem dL_refuses_512 : decode cL_refuses 512 = .ok (.iload 5, 2) := by decide +kernel
theorem dL_refuses_514 : decode cL_refuses 514 = .ok (.iconst 0, 1) := by decide +kernel
theorem dL_refuses_515 : decode cL_refuses 515 = .ok (.invokestatic 133, 3) := by decide +kernel
theorem dL_refuses_518 : decode cL_refuses 518 = .ok (.ldc 15, 2) := by decide +kernel
theorem dL_refuses_520 : decode cL_refuses 520 = .ok (.if_icmp .ne 133, 3) := by decide +kernel
theorem dL_refuses_523 : decode cL_refuses 523 = .ok (.aload_n 0, 1) := by decide +kernel
theorem dL_refuses_524 : decode cL_refuses 524 = .ok (.iload 5, 2) := by decide +kernel
theorem dL_refuses_526 : decode cL_refuses 526 = .ok (.bipush 101, 2) := by decide +kernel
theorem dL_refuses_528 : decode cL_refuses 528 = .ok (.iload_n 2, 1) := by decide +kernel
theorem dL_refuses_529 : decode cL_refuses 529 = .ok (.iadd, 1) := by decide +kernel
theorem dL_refuses_530 : decode cL_refuses 530 = .ok (.invokestatic 133, 3) := by decide +kernel
theorem dL_refuses_533 : decode cL_refuses 533 = .ok (.ldc 15, 2) := by decide +kernel
theorem dL_refuses_535 : decode cL_refuses 535 = .ok (.if_icmp .ne 118, 3) := by decide +kernel
theorem dL_refuses_538 : decode cL_refuses 538 = .ok (.aload_n 0, 1) := by decide +kernel
theorem dL_refuses_539 : decode cL_refuses 539 = .ok (.iload 4, 2) := by decide +kernel
theorem dL_refuses_541 : decode cL_refuses 541 = .ok (.invokestatic 136, 3) := by decide +kernel
theorem dL_refuses_544 : decode cL_refuses 544 = .ok (.ldc 24, 2) := by decide +kernel
theorem dL_refuses_546 : decode cL_refuses 546 = .ok (.if_icmp .ne 107, 3) := by decide +kernel
theorem dL_refuses_549 : decode cL_refuses 549 = .ok (.aload_n 0, 1) := by decide +kernel
theorem dL_refuses_550 : decode cL_refuses 550 = .ok (.iload 4, 2) := by decide +kernel
theorem dL_refuses_552 : decode cL_refuses 552 = .ok (.invokestatic 138, 3) := by decide +kernel
theorem dL_refuses_555 : decode cL_refuses 555 = .ok (.ldc 24, 2) := by decide +kernel
theorem dL_refuses_557 : decode cL_refuses 557 = .ok (.if_icmp .ne 96, 3) := by decide +kernel
theorem dL_refuses_560 : decode cL_refuses 560 = .ok (.aload_n 0, 1) := by decide +kernel
theorem dL_refuses_561 : decode cL_refuses 561 = .ok (.iload 4, 2) := by decide +kernel
theorem dL_refuses_563 : decode cL_refuses 563 = .ok (.iconst 0, 1) := by decide +kernel
theorem dL_refuses_564 : decode cL_refuses 564 = .ok (.invokestatic 140, 3) := by decide +kernel
theorem dL_refuses_567 : decode cL_refuses 567 = .ok (.ldc 24, 2) := by decide +kernel
theorem dL_refuses_569 : decode cL_refuses 569 = .ok (.if_icmp .ne 84, 3) := by decide +kernel
theorem dL_refuses_572 : decode cL_refuses 572 = .ok (.aload_n 0, 1) := by decide +kernel
theorem dL_refuses_573 : decode cL_refuses 573 = .ok (.iload 5, 2) := by decide +kernel
theorem dL_refuses_575 : decode cL_refuses 575 = .ok (.iconst (-1), 1) := by decide +kernel
theorem dL_refuses_576 : decode cL_refuses 576 = .ok (.iload_n 2, 1) := by decide +kernel
theorem dL_refuses_577 : decode cL_refuses 577 = .ok (.isub, 1) := by decide +kernel
theorem dL_refuses_578 : decode cL_refuses 578 = .ok (.invokestatic 140, 3) := by decide +kernel
theorem dL_refuses_581 : decode cL_refuses 581 = .ok (.ldc 24, 2) := by decide +kernel
theorem dL_refuses_583 : decode cL_refuses 583 = .ok (.if_icmp .ne 70, 3) := by decide +kernel
theorem dL_refuses_586 : decode cL_refuses 586 = .ok (.aload_n 0, 1) := by decide +kernel
theorem dL_refuses_587 : decode cL_refuses 587 = .ok (.iload 5, 2) := by decide +kernel
theorem dL_refuses_589 : decode cL_refuses 589 = .ok (.aload_n 0, 1) := by decide +kernel
theorem dL_refuses_590 : decode cL_refuses 590 = .ok (.iload 5, 2) := by decide +kernel
theorem dL_refuses_592 : decode cL_refuses 592 = .ok (.invokestatic 138, 3) := by decide +kernel
theorem dL_refuses_595 : decode cL_refuses 595 = .ok (.iload_n 2, 1) := by decide +kernel
theorem dL_refuses_596 : decode cL_refuses 596 = .ok (.iadd, 1) := by decide +kernel
theorem dL_refuses_597 : decode cL_refuses 597 = .ok (.invokestatic 140, 3) := by decide +kernel
theorem dL_refuses_600 : decode cL_refuses 600 = .ok (.ldc 24, 2) := by decide +kernel
theorem dL_refuses_602 : decode cL_refuses 602 = .ok (.if_icmp .ne 51, 3) := by decide +kernel
theorem dL_refuses_605 : decode cL_refuses 605 = .ok (.aload_n 0, 1) := by decide +kernel
theorem dL_refuses_606 : decode cL_refuses 606 = .ok (.iload 5, 2) := by decide +kernel
theorem dL_refuses_608 : decode cL_refuses 608 = .ok (.aload_n 0, 1) := by decide +kernel
theorem dL_refuses_609 : decode cL_refuses 609 = .ok (.iload 5, 2) := by decide +kernel
theorem dL_refuses_611 : decode cL_refuses 611 = .ok (.invokestatic 138, 3) := by decide +kernel
theorem dL_refuses_614 : decode cL_refuses 614 = .ok (.invokestatic 142, 3) := by decide +kernel
theorem dL_refuses_617 : decode cL_refuses 617 = .ok (.ldc 24, 2) := by decide +kernel
theorem dL_refuses_619 : decode cL_refuses 619 = .ok (.if_icmp .ne 34, 3) := by decide +kernel
theorem dL_refuses_622 : decode cL_refuses 622 = .ok (.aload_n 0, 1) := by decide +kernel
theorem dL_refuses_623 : decode cL_refuses 623 = .ok (.iload 5, 2) := by decide +kernel
theorem dL_refuses_625 : decode cL_refuses 625 = .ok (.iload_n 3, 1) := by decide +kernel
theorem dL_refuses_626 : decode cL_refuses 626 = .ok (.invokestatic 119, 3) := by decide +kernel
theorem dL_refuses_629 : decode cL_refuses 629 = .ok (.ifCond .ne 24, 3) := by decide +kernel
theorem dL_refuses_632 : decode cL_refuses 632 = .ok (.aload_n 0, 1) := by decide +kernel
theorem dL_refuses_633 : decode cL_refuses 633 = .ok (.iload 5, 2) := by decide +kernel
theorem dL_refuses_635 : decode cL_refuses 635 = .ok (.sipush 1000, 3) := by decide +kernel
theorem dL_refuses_638 : decode cL_refuses 638 = .ok (.aload_n 1, 1) := by decide +kernel
theorem dL_refuses_639 : decode cL_refuses 639 = .ok (.iload 5, 2) := by decide +kernel
theorem dL_refuses_641 : decode cL_refuses 641 = .ok (.iaload, 1) := by decide +kernel
theorem dL_refuses_642 : decode cL_refuses 642 = .ok (.iadd, 1) := by decide +kernel
theorem dL_refuses_643 : decode cL_refuses 643 = .ok (.invokestatic 119, 3) := by decide +kernel
theorem dL_refuses_646 : decode cL_refuses 646 = .ok (.ifCond .ne 7, 3) := by decide +kernel
theorem dL_refuses_649 : decode cL_refuses 649 = .ok (.iconst 1, 1) := by decide +kernel
theorem dL_refuses_650 : decode cL_refuses 650 = .ok (.goto 4, 3) := by decide +kernel
theorem dL_refuses_653 : decode cL_refuses 653 = .ok (.iconst 0, 1) := by decide +kernel
theorem dL_refuses_654 : decode cL_refuses 654 = .ok (.istore 6, 2) := by decide +kernel
theorem dL_refuses_656 : decode cL_refuses 656 = .ok (.iload 6, 2) := by decide +kernel
theorem dL_refuses_658 : decode cL_refuses 658 = .ok (.ifCond .eq 171, 3) := by decide +kernel
theorem dL_refuses_661 : decode cL_refuses 661 = .ok (.aload_n 0, 1) := by decide +kernel
theorem dL_refuses_662 : decode cL_refuses 662 = .ok (.invokevirtual 85, 3) := by decide +kernel
theorem dL_refuses_665 : decode cL_refuses 665 = .ok (.ifCond .le 164, 3) := by decide +kernel
theorem dL_refuses_668 : decode cL_refuses 668 = .ok (.iload_n 2, 1) := by decide +kernel
theorem dL_refuses_669 : decode cL_refuses 669 = .ok (.iconst 4, 1) := by decide +kernel
theorem dL_refuses_670 : decode cL_refuses 670 = .ok (.idiv, 1) := by decide +kernel
theorem dL_refuses_671 : decode cL_refuses 671 = .ok (.aload_n 0, 1) := by decide +kernel
theorem dL_refuses_672 : decode cL_refuses 672 = .ok (.invokevirtual 85, 3) := by decide +kernel
theorem dL_refuses_675 : decode cL_refuses 675 = .ok (.irem, 1) := by decide +kernel
theorem dL_refuses_676 : decode cL_refuses 676 = .ok (.istore 7, 2) := by decide +kernel
theorem dL_refuses_678 : decode cL_refuses 678 = .ok (.aload_n 0, 1) := by decide +kernel
theorem dL_refuses_679 : decode cL_refuses 679 = .ok (.iload 7, 2) := by decide +kernel
theorem dL_refuses_681 : decode cL_refuses 681 = .ok (.iload 4, 2) := by decide +kernel
theorem dL_refuses_683 : decode cL_refuses 683 = .ok (.invokestatic 95, 3) := by decide +kernel
theorem dL_refuses_686 : decode cL_refuses 686 = .ok (.ldc 15, 2) := by decide +kernel
theorem dL_refuses_688 : decode cL_refuses 688 = .ok (.if_icmp .ne 138, 3) := by decide +kernel
theorem dL_refuses_691 : decode cL_refuses 691 = .ok (.aload_n 0, 1) := by decide +kernel
theorem dL_refuses_692 : decode cL_refuses 692 = .ok (.iload 7, 2) := by decide +kernel
theorem dL_refuses_694 : decode cL_refuses 694 = .ok (.iconst 2, 1) := by decide +kernel
theorem dL_refuses_695 : decode cL_refuses 695 = .ok (.iload_n 2, 1) := by decide +kernel
theorem dL_refuses_696 : decode cL_refuses 696 = .ok (.iadd, 1) := by decide +kernel
theorem dL_refuses_697 : decode cL_refuses 697 = .ok (.iconst 0, 1) := by decide +kernel
theorem dL_refuses_698 : decode cL_refuses 698 = .ok (.invokestatic 98, 3) := by decide +kernel
theorem dL_refuses_701 : decode cL_refuses 701 = .ok (.ldc 15, 2) := by decide +kernel
theorem dL_refuses_703 : decode cL_refuses 703 = .ok (.if_icmp .ne 123, 3) := by decide +kernel
theorem dL_refuses_706 : decode cL_refuses 706 = .ok (.aload_n 0, 1) := by decide +kernel
theorem dL_refuses_707 : decode cL_refuses 707 = .ok (.iload 7, 2) := by decide +kernel
theorem dL_refuses_709 : decode cL_refuses 709 = .ok (.iconst 0, 1) := by decide +kernel
theorem dL_refuses_710 : decode cL_refuses 710 = .ok (.iconst 3, 1) := by decide +kernel
theorem dL_refuses_711 : decode cL_refuses 711 = .ok (.iload_n 2, 1) := by decide +kernel
theorem dL_refuses_712 : decode cL_refuses 712 = .ok (.iadd, 1) := by decide +kernel
theorem dL_refuses_713 : decode cL_refuses 713 = .ok (.invokestatic 98, 3) := by decide +kernel
theorem dL_refuses_716 : decode cL_refuses 716 = .ok (.ldc 15, 2) := by decide +kernel
theorem dL_refuses_718 : decode cL_refuses 718 = .ok (.if_icmp .ne 108, 3) := by decide +kernel
theorem dL_refuses_721 : decode cL_refuses 721 = .ok (.aload_n 0, 1) := by decide +kernel
theorem dL_refuses_722 : decode cL_refuses 722 = .ok (.iload 7, 2) := by decide +kernel
theorem dL_refuses_724 : decode cL_refuses 724 = .ok (.iconst 1, 1) := by decide +kernel
theorem dL_refuses_725 : decode cL_refuses 725 = .ok (.sipush 10001, 3) := by decide +kernel
theorem dL_refuses_728 : decode cL_refuses 728 = .ok (.iload_n 2, 1) := by decide +kernel
theorem dL_refuses_729 : decode cL_refuses 729 = .ok (.iadd, 1) := by decide +kernel
theorem dL_refuses_730 : decode cL_refuses 730 = .ok (.invokestatic 98, 3) := by decide +kernel
theorem dL_refuses_733 : decode cL_refuses 733 = .ok (.ldc 15, 2) := by decide +kernel
theorem dL_refuses_735 : decode cL_refuses 735 = .ok (.if_icmp .ne 91, 3) := by decide +kernel
theorem dL_refuses_738 : decode cL_refuses 738 = .ok (.aload_n 0, 1) := by decide +kernel
theorem dL_refuses_739 : decode cL_refuses 739 = .ok (.iload 7, 2) := by decide +kernel
theorem dL_refuses_741 : decode cL_refuses 741 = .ok (.iconst 1, 1) := by decide +kernel
theorem dL_refuses_742 : decode cL_refuses 742 = .ok (.iconst (-1), 1) := by decide +kernel
theorem dL_refuses_743 : decode cL_refuses 743 = .ok (.iload_n 2, 1) := by decide +kernel
theorem dL_refuses_744 : decode cL_refuses 744 = .ok (.isub, 1) := by decide +kernel
theorem dL_refuses_745 : decode cL_refuses 745 = .ok (.invokestatic 98, 3) := by decide +kernel
theorem dL_refuses_748 : decode cL_refuses 748 = .ok (.ldc 15, 2) := by decide +kernel
theorem dL_refuses_750 : decode cL_refuses 750 = .ok (.if_icmp .ne 76, 3) := by decide +kernel
theorem dL_refuses_753 : decode cL_refuses 753 = .ok (.aload_n 0, 1) := by decide +kernel
theorem dL_refuses_754 : decode cL_refuses 754 = .ok (.iload 7, 2) := by decide +kernel
theorem dL_refuses_756 : decode cL_refuses 756 = .ok (.iconst 2, 1) := by decide +kernel
theorem dL_refuses_757 : decode cL_refuses 757 = .ok (.iload_n 2, 1) := by decide +kernel
theorem dL_refuses_758 : decode cL_refuses 758 = .ok (.iadd, 1) := by decide +kernel
theorem dL_refuses_759 : decode cL_refuses 759 = .ok (.invokestatic 107, 3) := by decide +kernel
theorem dL_refuses_762 : decode cL_refuses 762 = .ok (.ldc 15, 2) := by decide +kernel
theorem dL_refuses_764 : decode cL_refuses 764 = .ok (.if_icmp .ne 62, 3) := by decide +kernel
theorem dL_refuses_767 : decode cL_refuses 767 = .ok (.aload_n 0, 1) := by decide +kernel
theorem dL_refuses_768 : decode cL_refuses 768 = .ok (.iload 7, 2) := by decide +kernel
theorem dL_refuses_770 : decode cL_refuses 770 = .ok (.iconst (-1), 1) := by decide +kernel
theorem dL_refuses_771 : decode cL_refuses 771 = .ok (.iload_n 2, 1) := by decide +kernel
theorem dL_refuses_772 : decode cL_refuses 772 = .ok (.isub, 1) := by decide +kernel
theorem dL_refuses_773 : decode cL_refuses 773 = .ok (.invokestatic 109, 3) := by decide +kernel
theorem dL_refuses_776 : decode cL_refuses 776 = .ok (.ldc 15, 2) := by decide +kernel
theorem dL_refuses_778 : decode cL_refuses 778 = .ok (.if_icmp .ne 48, 3) := by decide +kernel
theorem dL_refuses_781 : decode cL_refuses 781 = .ok (.aload_n 0, 1) := by decide +kernel
theorem dL_refuses_782 : decode cL_refuses 782 = .ok (.iload 5, 2) := by decide +kernel
theorem dL_refuses_784 : decode cL_refuses 784 = .ok (.iload 7, 2) := by decide +kernel
theorem dL_refuses_786 : decode cL_refuses 786 = .ok (.invokestatic 119, 3) := by decide +kernel
theorem dL_refuses_789 : decode cL_refuses 789 = .ok (.iconst 1, 1) := by decide +kernel
theorem dL_refuses_790 : decode cL_refuses 790 = .ok (.if_icmp .eq 32, 3) := by decide +kernel
theorem dL_refuses_793 : decode cL_refuses 793 = .ok (.aload_n 0, 1) := by decide +kernel
theorem dL_refuses_794 : decode cL_refuses 794 = .ok (.iload 5, 2) := by decide +kernel
theorem dL_refuses_796 : decode cL_refuses 796 = .ok (.iload 7, 2) := by decide +kernel
theorem dL_refuses_798 : decode cL_refuses 798 = .ok (.iconst 1, 1) := by decide +kernel
theorem dL_refuses_799 : decode cL_refuses 799 = .ok (.invokestatic 121, 3) := by decide +kernel
theorem dL_refuses_802 : decode cL_refuses 802 = .ok (.ldc 18, 2) := by decide +kernel
theorem dL_refuses_804 : decode cL_refuses 804 = .ok (.if_icmp .ne 22, 3) := by decide +kernel
theorem dL_refuses_807 : decode cL_refuses 807 = .ok (.aload_n 0, 1) := by decide +kernel
theorem dL_refuses_808 : decode cL_refuses 808 = .ok (.iload 5, 2) := by decide +kernel
theorem dL_refuses_810 : decode cL_refuses 810 = .ok (.iload 7, 2) := by decide +kernel
theorem dL_refuses_812 : decode cL_refuses 812 = .ok (.iconst 0, 1) := by decide +kernel
theorem dL_refuses_813 : decode cL_refuses 813 = .ok (.iconst 1, 1) := by decide +kernel
theorem dL_refuses_814 : decode cL_refuses 814 = .ok (.invokestatic 123, 3) := by decide +kernel
theorem dL_refuses_817 : decode cL_refuses 817 = .ok (.ldc 18, 2) := by decide +kernel
theorem dL_refuses_819 : decode cL_refuses 819 = .ok (.if_icmp .ne 7, 3) := by decide +kernel
theorem dL_refuses_822 : decode cL_refuses 822 = .ok (.iconst 1, 1) := by decide +kernel
theorem dL_refuses_823 : decode cL_refuses 823 = .ok (.goto 4, 3) := by decide +kernel
theorem dL_refuses_826 : decode cL_refuses 826 = .ok (.iconst 0, 1) := by decide +kernel
theorem dL_refuses_827 : decode cL_refuses 827 = .ok (.istore 6, 2) := by decide +kernel
theorem dL_refuses_829 : decode cL_refuses 829 = .ok (.iload 6, 2) := by decide +kernel
theorem dL_refuses_831 : decode cL_refuses 831 = .ok (.ifCond .eq 27, 3) := by decide +kernel
theorem dL_refuses_834 : decode cL_refuses 834 = .ok (.aload_n 0, 1) := by decide +kernel
theorem dL_refuses_835 : decode cL_refuses 835 = .ok (.invokevirtual 85, 3) := by decide +kernel
theorem dL_refuses_838 : decode cL_refuses 838 = .ok (.bipush 40, 2) := by decide +kernel
theorem dL_refuses_840 : decode cL_refuses 840 = .ok (.if_icmp .lt 14, 3) := by decide +kernel
theorem dL_refuses_843 : decode cL_refuses 843 = .ok (.aload_n 0, 1) := by decide +kernel
theorem dL_refuses_844 : decode cL_refuses 844 = .ok (.iconst 0, 1) := by decide +kernel
theorem dL_refuses_845 : decode cL_refuses 845 = .ok (.iconst 0, 1) := by decide +kernel
theorem dL_refuses_846 : decode cL_refuses 846 = .ok (.invokestatic 89, 3) := by decide +kernel
theorem dL_refuses_849 : decode cL_refuses 849 = .ok (.ldc 18, 2) := by decide +kernel
theorem dL_refuses_851 : decode cL_refuses 851 = .ok (.if_icmp .ne 7, 3) := by decide +kernel
theorem dL_refuses_854 : decode cL_refuses 854 = .ok (.iconst 1, 1) := by decide +kernel
theorem dL_refuses_855 : decode cL_refuses 855 = .ok (.goto 4, 3) := by decide +kernel
theorem dL_refuses_858 : decode cL_refuses 858 = .ok (.iconst 0, 1) := by decide +kernel
theorem dL_refuses_859 : decode cL_refuses 859 = .ok (.ireturn, 1) := by decide +kernel
theorem dL_act_0 : decode cL_act 0 = .ok (.iload_n 2, 1) := by decide +kernel
theorem dL_act_1 : decode cL_act 1 = .ok (.bipush 16, 2) := by decide +kernel
theorem dL_act_3 : decode cL_act 3 = .ok (.idiv, 1) := by decide +kernel
theorem dL_act_4 : decode cL_act 4 = .ok (.istore 4, 2) := by decide +kernel
theorem dL_act_6 : decode cL_act 6 = .ok (.iload 4, 2) := by decide +kernel
theorem dL_act_8 : decode cL_act 8 = .ok (.iconst 4, 1) := by decide +kernel
theorem dL_act_9 : decode cL_act 9 = .ok (.irem, 1) := by decide +kernel
theorem dL_act_10 : decode cL_act 10 = .ok (.istore 5, 2) := by decide +kernel
theorem dL_act_12 : decode cL_act 12 = .ok (.aload_n 0, 1) := by decide +kernel
theorem dL_act_13 : decode cL_act 13 = .ok (.invokevirtual 85, 3) := by decide +kernel
theorem dL_act_16 : decode cL_act 16 = .ok (.ifCond .ne 7, 3) := by decide +kernel
theorem dL_act_19 : decode cL_act 19 = .ok (.iconst 0, 1) := by decide +kernel
theorem dL_act_20 : decode cL_act 20 = .ok (.goto 12, 3) := by decide +kernel
theorem dL_act_23 : decode cL_act 23 = .ok (.iload 4, 2) := by decide +kernel
theorem dL_act_25 : decode cL_act 25 = .ok (.iconst 4, 1) := by decide +kernel
theorem dL_act_26 : decode cL_act 26 = .ok (.idiv, 1) := by decide +kernel
theorem dL_act_27 : decode cL_act 27 = .ok (.aload_n 0, 1) := by decide +kernel
theorem dL_act_28 : decode cL_act 28 = .ok (.invokevirtual 85, 3) := by decide +kernel
theorem dL_act_31 : decode cL_act 31 = .ok (.irem, 1) := by decide +kernel
theorem dL_act_32 : decode cL_act 32 = .ok (.istore 6, 2) := by decide +kernel
theorem dL_act_34 : decode cL_act 34 = .ok (.sipush 1000, 3) := by decide +kernel
theorem dL_act_37 : decode cL_act 37 = .ok (.aload_n 1, 1) := by decide +kernel
theorem dL_act_38 : decode cL_act 38 = .ok (.iload 5, 2) := by decide +kernel
theorem dL_act_40 : decode cL_act 40 = .ok (.iaload, 1) := by decide +kernel
theorem dL_act_41 : decode cL_act 41 = .ok (.ifCond .ne 7, 3) := by decide +kernel
theorem dL_act_44 : decode cL_act 44 = .ok (.iconst 0, 1) := by decide +kernel
theorem dL_act_45 : decode cL_act 45 = .ok (.goto 12, 3) := by decide +kernel
theorem dL_act_48 : decode cL_act 48 = .ok (.iload 4, 2) := by decide +kernel
theorem dL_act_50 : decode cL_act 50 = .ok (.iconst 4, 1) := by decide +kernel
theorem dL_act_51 : decode cL_act 51 = .ok (.idiv, 1) := by decide +kernel
theorem dL_act_52 : decode cL_act 52 = .ok (.aload_n 1, 1) := by decide +kernel
theorem dL_act_53 : decode cL_act 53 = .ok (.iload 5, 2) := by decide +kernel
theorem dL_act_55 : decode cL_act 55 = .ok (.iaload, 1) := by decide +kernel
theorem dL_act_56 : decode cL_act 56 = .ok (.irem, 1) := by decide +kernel
theorem dL_act_57 : decode cL_act 57 = .ok (.iadd, 1) := by decide +kernel
theorem dL_act_58 : decode cL_act 58 = .ok (.istore 7, 2) := by decide +kernel
theorem dL_act_60 : decode cL_act 60 = .ok (.iload 4, 2) := by decide +kernel
theorem dL_act_62 : decode cL_act 62 = .ok (.sipush 160, 3) := by decide +kernel
theorem dL_act_65 : decode cL_act 65 = .ok (.idiv, 1) := by decide +kernel
theorem dL_act_66 : decode cL_act 66 = .ok (.iconst 2, 1) := by decide +kernel
theorem dL_act_67 : decode cL_act 67 = .ok (.irem, 1) := by decide +kernel
theorem dL_act_68 : decode cL_act 68 = .ok (.istore 8, 2) := by decide +kernel
theorem dL_act_70 : decode cL_act 70 = .ok (.iload 8, 2) := by decide +kernel
theorem dL_act_72 : decode cL_act 72 = .ok (.ifCond .ne 14, 3) := by decide +kernel
theorem dL_act_75 : decode cL_act 75 = .ok (.iload 4, 2) := by decide +kernel
theorem dL_act_77 : decode cL_act 77 = .ok (.sipush 320, 3) := by decide +kernel
theorem dL_act_80 : decode cL_act 80 = .ok (.idiv, 1) := by decide +kernel
theorem dL_act_81 : decode cL_act 81 = .ok (.iconst 3, 1) := by decide +kernel
theorem dL_act_82 : decode cL_act 82 = .ok (.irem, 1) := by decide +kernel
theorem dL_act_83 : decode cL_act 83 = .ok (.goto 14, 3) := by decide +kernel
theorem dL_act_86 : decode cL_act 86 = .ok (.iload 4, 2) := by decide +kernel
theorem dL_act_88 : decode cL_act 88 = .ok (.sipush 320, 3) := by decide +kernel
theorem dL_act_91 : decode cL_act 91 = .ok (.idiv, 1) := by decide +kernel
theorem dL_act_92 : decode cL_act 92 = .ok (.iconst 4, 1) := by decide +kernel
theorem dL_act_93 : decode cL_act 93 = .ok (.irem, 1) := by decide +kernel
theorem dL_act_94 : decode cL_act 94 = .ok (.bipush 100, 2) := by decide +kernel
theorem dL_act_96 : decode cL_act 96 = .ok (.imul, 1) := by decide +kernel
theorem dL_act_97 : decode cL_act 97 = .ok (.istore 9, 2) := by decide +kernel
theorem dL_act_99 : decode cL_act 99 = .ok (.iload_n 2, 1) := by decide +kernel
theorem dL_act_100 : decode cL_act 100 = .ok (.bipush 16, 2) := by decide +kernel
theorem dL_act_102 : decode cL_act 102 = .ok (.irem, 1) := by decide +kernel
theorem dL_act_103 : decode cL_act 103 = .ok (.tableswitch 166 0 12 #[65, 65, 79, 94, 94, 105, 119, 119, 126, 126, 126, 139, 152], 65) := by decide +kernel
theorem dL_act_168 : decode cL_act 168 = .ok (.aload_n 0, 1) := by decide +kernel
theorem dL_act_169 : decode cL_act 169 = .ok (.iload 5, 2) := by decide +kernel
theorem dL_act_171 : decode cL_act 171 = .ok (.iload 4, 2) := by decide +kernel
theorem dL_act_173 : decode cL_act 173 = .ok (.iconst 4, 1) := by decide +kernel
theorem dL_act_174 : decode cL_act 174 = .ok (.idiv, 1) := by decide +kernel
theorem dL_act_175 : decode cL_act 175 = .ok (.bipush 10, 2) := by decide +kernel
theorem dL_act_177 : decode cL_act 177 = .ok (.irem, 1) := by decide +kernel
theorem dL_act_178 : decode cL_act 178 = .ok (.invokestatic 89, 3) := by decide +kernel
theorem dL_act_181 : decode cL_act 181 = .ok (.ireturn, 1) := by decide +kernel
theorem dL_act_182 : decode cL_act 182 = .ok (.aload_n 0, 1) := by decide +kernel
theorem dL_act_183 : decode cL_act 183 = .ok (.iload 6, 2) := by decide +kernel
theorem dL_act_185 : decode cL_act 185 = .ok (.iload 4, 2) := by decide +kernel
theorem dL_act_187 : decode cL_act 187 = .ok (.sipush 160, 3) := by decide +kernel
theorem dL_act_190 : decode cL_act 190 = .ok (.idiv, 1) := by decide +kernel
theorem dL_act_191 : decode cL_act 191 = .ok (.iconst 4, 1) := by decide +kernel
theorem dL_act_192 : decode cL_act 192 = .ok (.irem, 1) := by decide +kernel
theorem dL_act_193 : decode cL_act 193 = .ok (.invokestatic 95, 3) := by decide +kernel
theorem dL_act_196 : decode cL_act 196 = .ok (.ireturn, 1) := by decide +kernel
theorem dL_act_197 : decode cL_act 197 = .ok (.aload_n 0, 1) := by decide +kernel
theorem dL_act_198 : decode cL_act 198 = .ok (.iload 6, 2) := by decide +kernel
theorem dL_act_200 : decode cL_act 200 = .ok (.iload 8, 2) := by decide +kernel
theorem dL_act_202 : decode cL_act 202 = .ok (.iload 9, 2) := by decide +kernel
theorem dL_act_204 : decode cL_act 204 = .ok (.invokestatic 98, 3) := by decide +kernel
theorem dL_act_207 : decode cL_act 207 = .ok (.ireturn, 1) := by decide +kernel
theorem dL_act_208 : decode cL_act 208 = .ok (.aload_n 0, 1) := by decide +kernel
theorem dL_act_209 : decode cL_act 209 = .ok (.iload 5, 2) := by decide +kernel
theorem dL_act_211 : decode cL_act 211 = .ok (.iload 4, 2) := by decide +kernel
theorem dL_act_213 : decode cL_act 213 = .ok (.iconst 4, 1) := by decide +kernel
theorem dL_act_214 : decode cL_act 214 = .ok (.idiv, 1) := by decide +kernel
theorem dL_act_215 : decode cL_act 215 = .ok (.bipush 41, 2) := by decide +kernel
theorem dL_act_217 : decode cL_act 217 = .ok (.irem, 1) := by decide +kernel
theorem dL_act_218 : decode cL_act 218 = .ok (.invokestatic 111, 3) := by decide +kernel
theorem dL_act_221 : decode cL_act 221 = .ok (.ireturn, 1) := by decide +kernel
theorem dL_act_222 : decode cL_act 222 = .ok (.aload_n 0, 1) := by decide +kernel
theorem dL_act_223 : decode cL_act 223 = .ok (.iload 5, 2) := by decide +kernel
theorem dL_act_225 : decode cL_act 225 = .ok (.invokestatic 114, 3) := by decide +kernel
theorem dL_act_228 : decode cL_act 228 = .ok (.ireturn, 1) := by decide +kernel
theorem dL_act_229 : decode cL_act 229 = .ok (.aload_n 0, 1) := by decide +kernel
theorem dL_act_230 : decode cL_act 230 = .ok (.iload 5, 2) := by decide +kernel
theorem dL_act_232 : decode cL_act 232 = .ok (.iload 6, 2) := by decide +kernel
theorem dL_act_234 : decode cL_act 234 = .ok (.iload 8, 2) := by decide +kernel
theorem dL_act_236 : decode cL_act 236 = .ok (.iload 9, 2) := by decide +kernel
theorem dL_act_238 : decode cL_act 238 = .ok (.invokestatic 123, 3) := by decide +kernel
theorem dL_act_241 : decode cL_act 241 = .ok (.ireturn, 1) := by decide +kernel
theorem dL_act_242 : decode cL_act 242 = .ok (.aload_n 0, 1) := by decide +kernel
theorem dL_act_243 : decode cL_act 243 = .ok (.iload 5, 2) := by decide +kernel
theorem dL_act_245 : decode cL_act 245 = .ok (.iload 7, 2) := by decide +kernel
theorem dL_act_247 : decode cL_act 247 = .ok (.iload 8, 2) := by decide +kernel
theorem dL_act_249 : decode cL_act 249 = .ok (.iload 9, 2) := by decide +kernel
theorem dL_act_251 : decode cL_act 251 = .ok (.invokestatic 123, 3) := by decide +kernel
theorem dL_act_254 : decode cL_act 254 = .ok (.ireturn, 1) := by decide +kernel
theorem dL_act_255 : decode cL_act 255 = .ok (.aload_n 0, 1) := by decide +kernel
theorem dL_act_256 : decode cL_act 256 = .ok (.iload 5, 2) := by decide +kernel
theorem dL_act_258 : decode cL_act 258 = .ok (.iload 4, 2) := by decide +kernel
theorem dL_act_260 : decode cL_act 260 = .ok (.iconst 4, 1) := by decide +kernel
theorem dL_act_261 : decode cL_act 261 = .ok (.idiv, 1) := by decide +kernel
theorem dL_act_262 : decode cL_act 262 = .ok (.bipush 10, 2) := by decide +kernel
theorem dL_act_264 : decode cL_act 264 = .ok (.irem, 1) := by decide +kernel
theorem dL_act_265 : decode cL_act 265 = .ok (.invokestatic 127, 3) := by decide +kernel
theorem dL_act_268 : decode cL_act 268 = .ok (.ireturn, 1) := by decide +kernel
theorem dL_act_269 : decode cL_act 269 = .ok (.iconst 1, 1) := by decide +kernel
theorem dL_act_270 : decode cL_act 270 = .ok (.iload 4, 2) := by decide +kernel
theorem dL_act_272 : decode cL_act 272 = .ok (.iconst 4, 1) := by decide +kernel
theorem dL_act_273 : decode cL_act 273 = .ok (.idiv, 1) := by decide +kernel
theorem dL_act_274 : decode cL_act 274 = .ok (.iload 4, 2) := by decide +kernel
theorem dL_act_276 : decode cL_act 276 = .ok (.iconst 3, 1) := by decide +kernel
theorem dL_act_277 : decode cL_act 277 = .ok (.irem, 1) := by decide +kernel
theorem dL_act_278 : decode cL_act 278 = .ok (.ifCond .ne 7, 3) := by decide +kernel
theorem dL_act_281 : decode cL_act 281 = .ok (.iconst 4, 1) := by decide +kernel
theorem dL_act_282 : decode cL_act 282 = .ok (.goto 5, 3) := by decide +kernel
theorem dL_act_285 : decode cL_act 285 = .ok (.bipush 60, 2) := by decide +kernel
theorem dL_act_287 : decode cL_act 287 = .ok (.irem, 1) := by decide +kernel
theorem dL_act_288 : decode cL_act 288 = .ok (.iadd, 1) := by decide +kernel
theorem dL_act_289 : decode cL_act 289 = .ok (.istore 10, 2) := by decide +kernel
theorem dL_act_291 : decode cL_act 291 = .ok (.iconst 0, 1) := by decide +kernel
theorem dL_act_292 : decode cL_act 292 = .ok (.istore 11, 2) := by decide +kernel
theorem dL_act_294 : decode cL_act 294 = .ok (.iconst 0, 1) := by decide +kernel
theorem dL_act_295 : decode cL_act 295 = .ok (.istore 12, 2) := by decide +kernel
theorem dL_act_297 : decode cL_act 297 = .ok (.iload 12, 2) := by decide +kernel
theorem dL_act_299 : decode cL_act 299 = .ok (.iload 10, 2) := by decide +kernel
theorem dL_act_301 : decode cL_act 301 = .ok (.if_icmp .ge 34, 3) := by decide +kernel
theorem dL_act_304 : decode cL_act 304 = .ok (.iload_n 3, 1) := by decide +kernel
theorem dL_act_305 : decode cL_act 305 = .ok (.ifCond .eq 30, 3) := by decide +kernel
theorem dL_act_308 : decode cL_act 308 = .ok (.aload_n 0, 1) := by decide +kernel
theorem dL_act_309 : decode cL_act 309 = .ok (.iload 5, 2) := by decide +kernel
theorem dL_act_311 : decode cL_act 311 = .ok (.invokestatic 136, 3) := by decide +kernel
theorem dL_act_314 : decode cL_act 314 = .ok (.ifCond .le 21, 3) := by decide +kernel
theorem dL_act_317 : decode cL_act 317 = .ok (.iload 11, 2) := by decide +kernel
theorem dL_act_319 : decode cL_act 319 = .ok (.aload_n 0, 1) := by decide +kernel
theorem dL_act_320 : decode cL_act 320 = .ok (.iload 5, 2) := by decide +kernel
theorem dL_act_322 : decode cL_act 322 = .ok (.iconst 1, 1) := by decide +kernel
theorem dL_act_323 : decode cL_act 323 = .ok (.invokestatic 133, 3) := by decide +kernel
theorem dL_act_326 : decode cL_act 326 = .ok (.iadd, 1) := by decide +kernel
theorem dL_act_327 : decode cL_act 327 = .ok (.istore 11, 2) := by decide +kernel
theorem dL_act_329 : decode cL_act 329 = .ok (.iinc 12 1, 3) := by decide +kernel
theorem dL_act_332 : decode cL_act 332 = .ok (.goto (-35), 3) := by decide +kernel
theorem dL_act_335 : decode cL_act 335 = .ok (.iload_n 3, 1) := by decide +kernel
theorem dL_act_336 : decode cL_act 336 = .ok (.ifCond .eq 8, 3) := by decide +kernel
theorem dL_act_339 : decode cL_act 339 = .ok (.iload 11, 2) := by decide +kernel
theorem dL_act_341 : decode cL_act 341 = .ok (.goto 11, 3) := by decide +kernel
theorem dL_act_344 : decode cL_act 344 = .ok (.aload_n 0, 1) := by decide +kernel
theorem dL_act_345 : decode cL_act 345 = .ok (.iload 5, 2) := by decide +kernel
theorem dL_act_347 : decode cL_act 347 = .ok (.iload 10, 2) := by decide +kernel
theorem dL_act_349 : decode cL_act 349 = .ok (.invokestatic 133, 3) := by decide +kernel
theorem dL_act_352 : decode cL_act 352 = .ok (.ireturn, 1) := by decide +kernel
theorem dL_alike_0 : decode cL_alike 0 = .ok (.aload_n 0, 1) := by decide +kernel
theorem dL_alike_1 : decode cL_alike 1 = .ok (.invokevirtual 85, 3) := by decide +kernel
theorem dL_alike_4 : decode cL_alike 4 = .ok (.aload_n 1, 1) := by decide +kernel
theorem dL_alike_5 : decode cL_alike 5 = .ok (.invokevirtual 85, 3) := by decide +kernel
theorem dL_alike_8 : decode cL_alike 8 = .ok (.if_icmp .ne 18, 3) := by decide +kernel
theorem dL_alike_11 : decode cL_alike 11 = .ok (.aload_n 0, 1) := by decide +kernel
theorem dL_alike_12 : decode cL_alike 12 = .ok (.invokevirtual 145, 3) := by decide +kernel
theorem dL_alike_15 : decode cL_alike 15 = .ok (.aload_n 1, 1) := by decide +kernel
theorem dL_alike_16 : decode cL_alike 16 = .ok (.invokevirtual 145, 3) := by decide +kernel
theorem dL_alike_19 : decode cL_alike 19 = .ok (.if_icmp .ne 7, 3) := by decide +kernel
theorem dL_alike_22 : decode cL_alike 22 = .ok (.iconst 1, 1) := by decide +kernel
theorem dL_alike_23 : decode cL_alike 23 = .ok (.goto 4, 3) := by decide +kernel
theorem dL_alike_26 : decode cL_alike 26 = .ok (.iconst 0, 1) := by decide +kernel
theorem dL_alike_27 : decode cL_alike 27 = .ok (.istore_n 3, 1) := by decide +kernel
theorem dL_alike_28 : decode cL_alike 28 = .ok (.iconst 0, 1) := by decide +kernel
theorem dL_alike_29 : decode cL_alike 29 = .ok (.istore 4, 2) := by decide +kernel
theorem dL_alike_31 : decode cL_alike 31 = .ok (.iload 4, 2) := by decide +kernel
theorem dL_alike_33 : decode cL_alike 33 = .ok (.aload_n 0, 1) := by decide +kernel
theorem dL_alike_34 : decode cL_alike 34 = .ok (.invokevirtual 85, 3) := by decide +kernel
theorem dL_alike_37 : decode cL_alike 37 = .ok (.if_icmp .ge 108, 3) := by decide +kernel
theorem dL_alike_40 : decode cL_alike 40 = .ok (.iload_n 3, 1) := by decide +kernel
theorem dL_alike_41 : decode cL_alike 41 = .ok (.ifCond .eq 104, 3) := by decide +kernel
theorem dL_alike_44 : decode cL_alike 44 = .ok (.aload_n 0, 1) := by decide +kernel
theorem dL_alike_45 : decode cL_alike 45 = .ok (.iload 4, 2) := by decide +kernel
theorem dL_alike_47 : decode cL_alike 47 = .ok (.invokestatic 102, 3) := by decide +kernel
theorem dL_alike_50 : decode cL_alike 50 = .ok (.aload_n 1, 1) := by decide +kernel
theorem dL_alike_51 : decode cL_alike 51 = .ok (.iload 4, 2) := by decide +kernel
theorem dL_alike_53 : decode cL_alike 53 = .ok (.invokestatic 102, 3) := by decide +kernel
theorem dL_alike_56 : decode cL_alike 56 = .ok (.if_icmp .ne 81, 3) := by decide +kernel
theorem dL_alike_59 : decode cL_alike 59 = .ok (.aload_n 0, 1) := by decide +kernel
theorem dL_alike_60 : decode cL_alike 60 = .ok (.iload 4, 2) := by decide +kernel
theorem dL_alike_62 : decode cL_alike 62 = .ok (.invokestatic 105, 3) := by decide +kernel
theorem dL_alike_65 : decode cL_alike 65 = .ok (.aload_n 1, 1) := by decide +kernel
theorem dL_alike_66 : decode cL_alike 66 = .ok (.iload 4, 2) := by decide +kernel
theorem dL_alike_68 : decode cL_alike 68 = .ok (.invokestatic 105, 3) := by decide +kernel
theorem dL_alike_71 : decode cL_alike 71 = .ok (.if_icmp .ne 66, 3) := by decide +kernel
theorem dL_alike_74 : decode cL_alike 74 = .ok (.aload_n 0, 1) := by decide +kernel
theorem dL_alike_75 : decode cL_alike 75 = .ok (.iload 4, 2) := by decide +kernel
theorem dL_alike_77 : decode cL_alike 77 = .ok (.iconst 0, 1) := by decide +kernel
theorem dL_alike_78 : decode cL_alike 78 = .ok (.invokestatic 107, 3) := by decide +kernel
theorem dL_alike_81 : decode cL_alike 81 = .ok (.aload_n 1, 1) := by decide +kernel
theorem dL_alike_82 : decode cL_alike 82 = .ok (.iload 4, 2) := by decide +kernel
theorem dL_alike_84 : decode cL_alike 84 = .ok (.iconst 0, 1) := by decide +kernel
theorem dL_alike_85 : decode cL_alike 85 = .ok (.invokestatic 107, 3) := by decide +kernel
theorem dL_alike_88 : decode cL_alike 88 = .ok (.if_icmp .ne 49, 3) := by decide +kernel
theorem dL_alike_91 : decode cL_alike 91 = .ok (.aload_n 0, 1) := by decide +kernel
theorem dL_alike_92 : decode cL_alike 92 = .ok (.iload 4, 2) := by decide +kernel
theorem dL_alike_94 : decode cL_alike 94 = .ok (.iconst 1, 1) := by decide +kernel
theorem dL_alike_95 : decode cL_alike 95 = .ok (.invokestatic 109, 3) := by decide +kernel
theorem dL_alike_98 : decode cL_alike 98 = .ok (.aload_n 1, 1) := by decide +kernel
theorem dL_alike_99 : decode cL_alike 99 = .ok (.iload 4, 2) := by decide +kernel
theorem dL_alike_101 : decode cL_alike 101 = .ok (.iconst 1, 1) := by decide +kernel
theorem dL_alike_102 : decode cL_alike 102 = .ok (.invokestatic 109, 3) := by decide +kernel
theorem dL_alike_105 : decode cL_alike 105 = .ok (.if_icmp .ne 32, 3) := by decide +kernel
theorem dL_alike_108 : decode cL_alike 108 = .ok (.aload_n 0, 1) := by decide +kernel
theorem dL_alike_109 : decode cL_alike 109 = .ok (.iload 4, 2) := by decide +kernel
theorem dL_alike_111 : decode cL_alike 111 = .ok (.iconst 4, 1) := by decide +kernel
theorem dL_alike_112 : decode cL_alike 112 = .ok (.irem, 1) := by decide +kernel
theorem dL_alike_113 : decode cL_alike 113 = .ok (.iload 4, 2) := by decide +kernel
theorem dL_alike_115 : decode cL_alike 115 = .ok (.iconst 0, 1) := by decide +kernel
theorem dL_alike_116 : decode cL_alike 116 = .ok (.invokestatic 121, 3) := by decide +kernel
theorem dL_alike_119 : decode cL_alike 119 = .ok (.aload_n 1, 1) := by decide +kernel
theorem dL_alike_120 : decode cL_alike 120 = .ok (.iload 4, 2) := by decide +kernel
theorem dL_alike_122 : decode cL_alike 122 = .ok (.iconst 4, 1) := by decide +kernel
theorem dL_alike_123 : decode cL_alike 123 = .ok (.irem, 1) := by decide +kernel
theorem dL_alike_124 : decode cL_alike 124 = .ok (.iload 4, 2) := by decide +kernel
theorem dL_alike_126 : decode cL_alike 126 = .ok (.iconst 0, 1) := by decide +kernel
theorem dL_alike_127 : decode cL_alike 127 = .ok (.invokestatic 121, 3) := by decide +kernel
theorem dL_alike_130 : decode cL_alike 130 = .ok (.if_icmp .ne 7, 3) := by decide +kernel
theorem dL_alike_133 : decode cL_alike 133 = .ok (.iconst 1, 1) := by decide +kernel
theorem dL_alike_134 : decode cL_alike 134 = .ok (.goto 4, 3) := by decide +kernel
theorem dL_alike_137 : decode cL_alike 137 = .ok (.iconst 0, 1) := by decide +kernel
theorem dL_alike_138 : decode cL_alike 138 = .ok (.istore_n 3, 1) := by decide +kernel
theorem dL_alike_139 : decode cL_alike 139 = .ok (.iinc 4 1, 3) := by decide +kernel
theorem dL_alike_142 : decode cL_alike 142 = .ok (.goto (-111), 3) := by decide +kernel
theorem dL_alike_145 : decode cL_alike 145 = .ok (.iconst 0, 1) := by decide +kernel
theorem dL_alike_146 : decode cL_alike 146 = .ok (.istore 4, 2) := by decide +kernel
theorem dL_alike_148 : decode cL_alike 148 = .ok (.iload 4, 2) := by decide +kernel
theorem dL_alike_150 : decode cL_alike 150 = .ok (.iconst 4, 1) := by decide +kernel
theorem dL_alike_151 : decode cL_alike 151 = .ok (.if_icmp .ge 148, 3) := by decide +kernel
theorem dL_alike_154 : decode cL_alike 154 = .ok (.iload_n 3, 1) := by decide +kernel
theorem dL_alike_155 : decode cL_alike 155 = .ok (.ifCond .eq 144, 3) := by decide +kernel
theorem dL_alike_158 : decode cL_alike 158 = .ok (.aload_n 0, 1) := by decide +kernel
theorem dL_alike_159 : decode cL_alike 159 = .ok (.iload 4, 2) := by decide +kernel
theorem dL_alike_161 : decode cL_alike 161 = .ok (.invokestatic 117, 3) := by decide +kernel
theorem dL_alike_164 : decode cL_alike 164 = .ok (.aload_n 1, 1) := by decide +kernel
theorem dL_alike_165 : decode cL_alike 165 = .ok (.iload 4, 2) := by decide +kernel
theorem dL_alike_167 : decode cL_alike 167 = .ok (.invokestatic 117, 3) := by decide +kernel
theorem dL_alike_170 : decode cL_alike 170 = .ok (.if_icmp .ne 37, 3) := by decide +kernel
theorem dL_alike_173 : decode cL_alike 173 = .ok (.aload_n 0, 1) := by decide +kernel
theorem dL_alike_174 : decode cL_alike 174 = .ok (.iload 4, 2) := by decide +kernel
theorem dL_alike_176 : decode cL_alike 176 = .ok (.invokestatic 136, 3) := by decide +kernel
theorem dL_alike_179 : decode cL_alike 179 = .ok (.aload_n 1, 1) := by decide +kernel
theorem dL_alike_180 : decode cL_alike 180 = .ok (.iload 4, 2) := by decide +kernel
theorem dL_alike_182 : decode cL_alike 182 = .ok (.invokestatic 136, 3) := by decide +kernel
theorem dL_alike_185 : decode cL_alike 185 = .ok (.if_icmp .ne 22, 3) := by decide +kernel
theorem dL_alike_188 : decode cL_alike 188 = .ok (.aload_n 0, 1) := by decide +kernel
theorem dL_alike_189 : decode cL_alike 189 = .ok (.iload 4, 2) := by decide +kernel
theorem dL_alike_191 : decode cL_alike 191 = .ok (.invokestatic 138, 3) := by decide +kernel
theorem dL_alike_194 : decode cL_alike 194 = .ok (.aload_n 1, 1) := by decide +kernel
theorem dL_alike_195 : decode cL_alike 195 = .ok (.iload 4, 2) := by decide +kernel
theorem dL_alike_197 : decode cL_alike 197 = .ok (.invokestatic 138, 3) := by decide +kernel
theorem dL_alike_200 : decode cL_alike 200 = .ok (.if_icmp .ne 7, 3) := by decide +kernel
theorem dL_alike_203 : decode cL_alike 203 = .ok (.iconst 1, 1) := by decide +kernel
theorem dL_alike_204 : decode cL_alike 204 = .ok (.goto 4, 3) := by decide +kernel
theorem dL_alike_207 : decode cL_alike 207 = .ok (.iconst 0, 1) := by decide +kernel
theorem dL_alike_208 : decode cL_alike 208 = .ok (.istore_n 3, 1) := by decide +kernel
theorem dL_alike_209 : decode cL_alike 209 = .ok (.iconst 0, 1) := by decide +kernel
theorem dL_alike_210 : decode cL_alike 210 = .ok (.istore 5, 2) := by decide +kernel
theorem dL_alike_212 : decode cL_alike 212 = .ok (.iload 5, 2) := by decide +kernel
theorem dL_alike_214 : decode cL_alike 214 = .ok (.aload_n 2, 1) := by decide +kernel
theorem dL_alike_215 : decode cL_alike 215 = .ok (.iload 4, 2) := by decide +kernel
theorem dL_alike_217 : decode cL_alike 217 = .ok (.iaload, 1) := by decide +kernel
theorem dL_alike_218 : decode cL_alike 218 = .ok (.if_icmp .ge 75, 3) := by decide +kernel
theorem dL_alike_221 : decode cL_alike 221 = .ok (.iload_n 3, 1) := by decide +kernel
theorem dL_alike_222 : decode cL_alike 222 = .ok (.ifCond .eq 71, 3) := by decide +kernel
theorem dL_alike_225 : decode cL_alike 225 = .ok (.aload_n 0, 1) := by decide +kernel
theorem dL_alike_226 : decode cL_alike 226 = .ok (.iload 4, 2) := by decide +kernel
theorem dL_alike_228 : decode cL_alike 228 = .ok (.sipush 1000, 3) := by decide +kernel
theorem dL_alike_231 : decode cL_alike 231 = .ok (.iload 5, 2) := by decide +kernel
theorem dL_alike_233 : decode cL_alike 233 = .ok (.iadd, 1) := by decide +kernel
theorem dL_alike_234 : decode cL_alike 234 = .ok (.invokestatic 130, 3) := by decide +kernel
theorem dL_alike_237 : decode cL_alike 237 = .ok (.aload_n 1, 1) := by decide +kernel
theorem dL_alike_238 : decode cL_alike 238 = .ok (.iload 4, 2) := by decide +kernel
theorem dL_alike_240 : decode cL_alike 240 = .ok (.sipush 1000, 3) := by decide +kernel
theorem dL_alike_243 : decode cL_alike 243 = .ok (.iload 5, 2) := by decide +kernel
theorem dL_alike_245 : decode cL_alike 245 = .ok (.iadd, 1) := by decide +kernel
theorem dL_alike_246 : decode cL_alike 246 = .ok (.invokestatic 130, 3) := by decide +kernel
theorem dL_alike_249 : decode cL_alike 249 = .ok (.if_icmp .ne 36, 3) := by decide +kernel
theorem dL_alike_252 : decode cL_alike 252 = .ok (.aload_n 0, 1) := by decide +kernel
theorem dL_alike_253 : decode cL_alike 253 = .ok (.iload 4, 2) := by decide +kernel
theorem dL_alike_255 : decode cL_alike 255 = .ok (.sipush 1000, 3) := by decide +kernel
theorem dL_alike_258 : decode cL_alike 258 = .ok (.iload 5, 2) := by decide +kernel
theorem dL_alike_260 : decode cL_alike 260 = .ok (.iadd, 1) := by decide +kernel
theorem dL_alike_261 : decode cL_alike 261 = .ok (.iconst 1, 1) := by decide +kernel
theorem dL_alike_262 : decode cL_alike 262 = .ok (.invokestatic 121, 3) := by decide +kernel
theorem dL_alike_265 : decode cL_alike 265 = .ok (.aload_n 1, 1) := by decide +kernel
theorem dL_alike_266 : decode cL_alike 266 = .ok (.iload 4, 2) := by decide +kernel
theorem dL_alike_268 : decode cL_alike 268 = .ok (.sipush 1000, 3) := by decide +kernel
theorem dL_alike_271 : decode cL_alike 271 = .ok (.iload 5, 2) := by decide +kernel
theorem dL_alike_273 : decode cL_alike 273 = .ok (.iadd, 1) := by decide +kernel
theorem dL_alike_274 : decode cL_alike 274 = .ok (.iconst 1, 1) := by decide +kernel
theorem dL_alike_275 : decode cL_alike 275 = .ok (.invokestatic 121, 3) := by decide +kernel
theorem dL_alike_278 : decode cL_alike 278 = .ok (.if_icmp .ne 7, 3) := by decide +kernel
theorem dL_alike_281 : decode cL_alike 281 = .ok (.iconst 1, 1) := by decide +kernel
theorem dL_alike_282 : decode cL_alike 282 = .ok (.goto 4, 3) := by decide +kernel
theorem dL_alike_285 : decode cL_alike 285 = .ok (.iconst 0, 1) := by decide +kernel
theorem dL_alike_286 : decode cL_alike 286 = .ok (.istore_n 3, 1) := by decide +kernel
theorem dL_alike_287 : decode cL_alike 287 = .ok (.iinc 5 1, 3) := by decide +kernel
theorem dL_alike_290 : decode cL_alike 290 = .ok (.goto (-78), 3) := by decide +kernel
theorem dL_alike_293 : decode cL_alike 293 = .ok (.iinc 4 1, 3) := by decide +kernel
theorem dL_alike_296 : decode cL_alike 296 = .ok (.goto (-148), 3) := by decide +kernel
theorem dL_alike_299 : decode cL_alike 299 = .ok (.iload_n 3, 1) := by decide +kernel
theorem dL_alike_300 : decode cL_alike 300 = .ok (.ireturn, 1) := by decide +kernel
theorem dL_holdsAll_0 : decode cL_holdsAll 0 = .ok (.aload_n 0, 1) := by decide +kernel
theorem dL_holdsAll_1 : decode cL_holdsAll 1 = .ok (.invokevirtual 145, 3) := by decide +kernel
theorem dL_holdsAll_4 : decode cL_holdsAll 4 = .ok (.istore_n 3, 1) := by decide +kernel
theorem dL_holdsAll_5 : decode cL_holdsAll 5 = .ok (.iconst 0, 1) := by decide +kernel
theorem dL_holdsAll_6 : decode cL_holdsAll 6 = .ok (.istore 4, 2) := by decide +kernel
theorem dL_holdsAll_8 : decode cL_holdsAll 8 = .ok (.iconst 1, 1) := by decide +kernel
theorem dL_holdsAll_9 : decode cL_holdsAll 9 = .ok (.istore 5, 2) := by decide +kernel
theorem dL_holdsAll_11 : decode cL_holdsAll 11 = .ok (.iconst 0, 1) := by decide +kernel
theorem dL_holdsAll_12 : decode cL_holdsAll 12 = .ok (.istore 6, 2) := by decide +kernel
theorem dL_holdsAll_14 : decode cL_holdsAll 14 = .ok (.iload 6, 2) := by decide +kernel
theorem dL_holdsAll_16 : decode cL_holdsAll 16 = .ok (.iconst 4, 1) := by decide +kernel
theorem dL_holdsAll_17 : decode cL_holdsAll 17 = .ok (.if_icmp .ge 308, 3) := by decide +kernel
theorem dL_holdsAll_20 : decode cL_holdsAll 20 = .ok (.iload 5, 2) := by decide +kernel
theorem dL_holdsAll_22 : decode cL_holdsAll 22 = .ok (.ifCond .eq 303, 3) := by decide +kernel
theorem dL_holdsAll_25 : decode cL_holdsAll 25 = .ok (.iconst 0, 1) := by decide +kernel
theorem dL_holdsAll_26 : decode cL_holdsAll 26 = .ok (.istore 7, 2) := by decide +kernel
theorem dL_holdsAll_28 : decode cL_holdsAll 28 = .ok (.iload_n 3, 1) := by decide +kernel
theorem dL_holdsAll_29 : decode cL_holdsAll 29 = .ok (.aload_n 0, 1) := by decide +kernel
theorem dL_holdsAll_30 : decode cL_holdsAll 30 = .ok (.iload 6, 2) := by decide +kernel
theorem dL_holdsAll_32 : decode cL_holdsAll 32 = .ok (.invokestatic 136, 3) := by decide +kernel
theorem dL_holdsAll_35 : decode cL_holdsAll 35 = .ok (.aload_n 0, 1) := by decide +kernel
theorem dL_holdsAll_36 : decode cL_holdsAll 36 = .ok (.iload 6, 2) := by decide +kernel
theorem dL_holdsAll_38 : decode cL_holdsAll 38 = .ok (.invokestatic 138, 3) := by decide +kernel
theorem dL_holdsAll_41 : decode cL_holdsAll 41 = .ok (.iadd, 1) := by decide +kernel
theorem dL_holdsAll_42 : decode cL_holdsAll 42 = .ok (.iadd, 1) := by decide +kernel
theorem dL_holdsAll_43 : decode cL_holdsAll 43 = .ok (.istore_n 3, 1) := by decide +kernel
theorem dL_holdsAll_44 : decode cL_holdsAll 44 = .ok (.iconst 0, 1) := by decide +kernel
theorem dL_holdsAll_45 : decode cL_holdsAll 45 = .ok (.istore 8, 2) := by decide +kernel
theorem dL_holdsAll_47 : decode cL_holdsAll 47 = .ok (.iload 8, 2) := by decide +kernel
theorem dL_holdsAll_49 : decode cL_holdsAll 49 = .ok (.aload_n 0, 1) := by decide +kernel
theorem dL_holdsAll_50 : decode cL_holdsAll 50 = .ok (.invokevirtual 85, 3) := by decide +kernel
theorem dL_holdsAll_53 : decode cL_holdsAll 53 = .ok (.if_icmp .ge 22, 3) := by decide +kernel
theorem dL_holdsAll_56 : decode cL_holdsAll 56 = .ok (.iload 7, 2) := by decide +kernel
theorem dL_holdsAll_58 : decode cL_holdsAll 58 = .ok (.aload_n 0, 1) := by decide +kernel
theorem dL_holdsAll_59 : decode cL_holdsAll 59 = .ok (.iload 6, 2) := by decide +kernel
theorem dL_holdsAll_61 : decode cL_holdsAll 61 = .ok (.iload 8, 2) := by decide +kernel
theorem dL_holdsAll_63 : decode cL_holdsAll 63 = .ok (.invokestatic 119, 3) := by decide +kernel
theorem dL_holdsAll_66 : decode cL_holdsAll 66 = .ok (.iadd, 1) := by decide +kernel
theorem dL_holdsAll_67 : decode cL_holdsAll 67 = .ok (.istore 7, 2) := by decide +kernel
theorem dL_holdsAll_69 : decode cL_holdsAll 69 = .ok (.iinc 8 1, 3) := by decide +kernel
theorem dL_holdsAll_72 : decode cL_holdsAll 72 = .ok (.goto (-25), 3) := by decide +kernel
theorem dL_holdsAll_75 : decode cL_holdsAll 75 = .ok (.iconst 0, 1) := by decide +kernel
theorem dL_holdsAll_76 : decode cL_holdsAll 76 = .ok (.istore 8, 2) := by decide +kernel
theorem dL_holdsAll_78 : decode cL_holdsAll 78 = .ok (.iload 8, 2) := by decide +kernel
theorem dL_holdsAll_80 : decode cL_holdsAll 80 = .ok (.aload_n 1, 1) := by decide +kernel
theorem dL_holdsAll_81 : decode cL_holdsAll 81 = .ok (.iload 6, 2) := by decide +kernel
theorem dL_holdsAll_83 : decode cL_holdsAll 83 = .ok (.iaload, 1) := by decide +kernel
theorem dL_holdsAll_84 : decode cL_holdsAll 84 = .ok (.if_icmp .ge 133, 3) := by decide +kernel
theorem dL_holdsAll_87 : decode cL_holdsAll 87 = .ok (.iload 5, 2) := by decide +kernel
theorem dL_holdsAll_89 : decode cL_holdsAll 89 = .ok (.ifCond .eq 128, 3) := by decide +kernel
theorem dL_holdsAll_92 : decode cL_holdsAll 92 = .ok (.aload_n 0, 1) := by decide +kernel
theorem dL_holdsAll_93 : decode cL_holdsAll 93 = .ok (.iload 6, 2) := by decide +kernel
theorem dL_holdsAll_95 : decode cL_holdsAll 95 = .ok (.sipush 1000, 3) := by decide +kernel
theorem dL_holdsAll_98 : decode cL_holdsAll 98 = .ok (.iload 8, 2) := by decide +kernel
theorem dL_holdsAll_100 : decode cL_holdsAll 100 = .ok (.iadd, 1) := by decide +kernel
theorem dL_holdsAll_101 : decode cL_holdsAll 101 = .ok (.invokestatic 130, 3) := by decide +kernel
theorem dL_holdsAll_104 : decode cL_holdsAll 104 = .ok (.istore 9, 2) := by decide +kernel
theorem dL_holdsAll_106 : decode cL_holdsAll 106 = .ok (.aload_n 0, 1) := by decide +kernel
theorem dL_holdsAll_107 : decode cL_holdsAll 107 = .ok (.iload 6, 2) := by decide +kernel
theorem dL_holdsAll_109 : decode cL_holdsAll 109 = .ok (.sipush 1000, 3) := by decide +kernel
theorem dL_holdsAll_112 : decode cL_holdsAll 112 = .ok (.iload 8, 2) := by decide +kernel
theorem dL_holdsAll_114 : decode cL_holdsAll 114 = .ok (.iadd, 1) := by decide +kernel
theorem dL_holdsAll_115 : decode cL_holdsAll 115 = .ok (.invokestatic 119, 3) := by decide +kernel
theorem dL_holdsAll_118 : decode cL_holdsAll 118 = .ok (.istore 10, 2) := by decide +kernel
theorem dL_holdsAll_120 : decode cL_holdsAll 120 = .ok (.iload 7, 2) := by decide +kernel
theorem dL_holdsAll_122 : decode cL_holdsAll 122 = .ok (.iload 9, 2) := by decide +kernel
theorem dL_holdsAll_124 : decode cL_holdsAll 124 = .ok (.iconst (-1), 1) := by decide +kernel
theorem dL_holdsAll_125 : decode cL_holdsAll 125 = .ok (.if_icmp .ne 7, 3) := by decide +kernel
theorem dL_holdsAll_128 : decode cL_holdsAll 128 = .ok (.iconst 1, 1) := by decide +kernel
theorem dL_holdsAll_129 : decode cL_holdsAll 129 = .ok (.goto 4, 3) := by decide +kernel
theorem dL_holdsAll_132 : decode cL_holdsAll 132 = .ok (.iconst 0, 1) := by decide +kernel
theorem dL_holdsAll_133 : decode cL_holdsAll 133 = .ok (.iadd, 1) := by decide +kernel
theorem dL_holdsAll_134 : decode cL_holdsAll 134 = .ok (.istore 7, 2) := by decide +kernel
theorem dL_holdsAll_136 : decode cL_holdsAll 136 = .ok (.iload 9, 2) := by decide +kernel
theorem dL_holdsAll_138 : decode cL_holdsAll 138 = .ok (.iconst (-1), 1) := by decide +kernel
theorem dL_holdsAll_139 : decode cL_holdsAll 139 = .ok (.if_icmp .lt 69, 3) := by decide +kernel
theorem dL_holdsAll_142 : decode cL_holdsAll 142 = .ok (.iload 9, 2) := by decide +kernel
theorem dL_holdsAll_144 : decode cL_holdsAll 144 = .ok (.aload_n 0, 1) := by decide +kernel
theorem dL_holdsAll_145 : decode cL_holdsAll 145 = .ok (.invokevirtual 85, 3) := by decide +kernel
theorem dL_holdsAll_148 : decode cL_holdsAll 148 = .ok (.if_icmp .ge 60, 3) := by decide +kernel
theorem dL_holdsAll_151 : decode cL_holdsAll 151 = .ok (.iload 9, 2) := by decide +kernel
theorem dL_holdsAll_153 : decode cL_holdsAll 153 = .ok (.iconst (-1), 1) := by decide +kernel
theorem dL_holdsAll_154 : decode cL_holdsAll 154 = .ok (.if_icmp .ne 12, 3) := by decide +kernel
theorem dL_holdsAll_157 : decode cL_holdsAll 157 = .ok (.iload 10, 2) := by decide +kernel
theorem dL_holdsAll_159 : decode cL_holdsAll 159 = .ok (.iconst 1, 1) := by decide +kernel
theorem dL_holdsAll_160 : decode cL_holdsAll 160 = .ok (.if_icmp .ne 48, 3) := by decide +kernel
theorem dL_holdsAll_163 : decode cL_holdsAll 163 = .ok (.goto 41, 3) := by decide +kernel
theorem dL_holdsAll_166 : decode cL_holdsAll 166 = .ok (.iload 10, 2) := by decide +kernel
theorem dL_holdsAll_168 : decode cL_holdsAll 168 = .ok (.aload_n 0, 1) := by decide +kernel
theorem dL_holdsAll_169 : decode cL_holdsAll 169 = .ok (.iload 6, 2) := by decide +kernel
theorem dL_holdsAll_171 : decode cL_holdsAll 171 = .ok (.iload 9, 2) := by decide +kernel
theorem dL_holdsAll_173 : decode cL_holdsAll 173 = .ok (.invokestatic 119, 3) := by decide +kernel
theorem dL_holdsAll_176 : decode cL_holdsAll 176 = .ok (.if_icmp .ne 32, 3) := by decide +kernel
theorem dL_holdsAll_179 : decode cL_holdsAll 179 = .ok (.aload_n 0, 1) := by decide +kernel
theorem dL_holdsAll_180 : decode cL_holdsAll 180 = .ok (.iload 6, 2) := by decide +kernel
theorem dL_holdsAll_182 : decode cL_holdsAll 182 = .ok (.iload 9, 2) := by decide +kernel
theorem dL_holdsAll_184 : decode cL_holdsAll 184 = .ok (.iconst 0, 1) := by decide +kernel
theorem dL_holdsAll_185 : decode cL_holdsAll 185 = .ok (.invokestatic 121, 3) := by decide +kernel
theorem dL_holdsAll_188 : decode cL_holdsAll 188 = .ok (.aload_n 0, 1) := by decide +kernel
theorem dL_holdsAll_189 : decode cL_holdsAll 189 = .ok (.iload 6, 2) := by decide +kernel
theorem dL_holdsAll_191 : decode cL_holdsAll 191 = .ok (.sipush 1000, 3) := by decide +kernel
theorem dL_holdsAll_194 : decode cL_holdsAll 194 = .ok (.iload 8, 2) := by decide +kernel
theorem dL_holdsAll_196 : decode cL_holdsAll 196 = .ok (.iadd, 1) := by decide +kernel
theorem dL_holdsAll_197 : decode cL_holdsAll 197 = .ok (.iconst 0, 1) := by decide +kernel
theorem dL_holdsAll_198 : decode cL_holdsAll 198 = .ok (.invokestatic 121, 3) := by decide +kernel
theorem dL_holdsAll_201 : decode cL_holdsAll 201 = .ok (.if_icmp .ne 7, 3) := by decide +kernel
theorem dL_holdsAll_204 : decode cL_holdsAll 204 = .ok (.iconst 1, 1) := by decide +kernel
theorem dL_holdsAll_205 : decode cL_holdsAll 205 = .ok (.goto 4, 3) := by decide +kernel
theorem dL_holdsAll_208 : decode cL_holdsAll 208 = .ok (.iconst 0, 1) := by decide +kernel
theorem dL_holdsAll_209 : decode cL_holdsAll 209 = .ok (.istore 5, 2) := by decide +kernel
theorem dL_holdsAll_211 : decode cL_holdsAll 211 = .ok (.iinc 8 1, 3) := by decide +kernel
theorem dL_holdsAll_214 : decode cL_holdsAll 214 = .ok (.goto (-136), 3) := by decide +kernel
theorem dL_holdsAll_217 : decode cL_holdsAll 217 = .ok (.iload 5, 2) := by decide +kernel
theorem dL_holdsAll_219 : decode cL_holdsAll 219 = .ok (.ifCond .eq 18, 3) := by decide +kernel
theorem dL_holdsAll_222 : decode cL_holdsAll 222 = .ok (.iload 7, 2) := by decide +kernel
theorem dL_holdsAll_224 : decode cL_holdsAll 224 = .ok (.aload_n 0, 1) := by decide +kernel
theorem dL_holdsAll_225 : decode cL_holdsAll 225 = .ok (.iload 6, 2) := by decide +kernel
theorem dL_holdsAll_227 : decode cL_holdsAll 227 = .ok (.invokestatic 117, 3) := by decide +kernel
theorem dL_holdsAll_230 : decode cL_holdsAll 230 = .ok (.if_icmp .ne 7, 3) := by decide +kernel
theorem dL_holdsAll_233 : decode cL_holdsAll 233 = .ok (.iconst 1, 1) := by decide +kernel
theorem dL_holdsAll_234 : decode cL_holdsAll 234 = .ok (.goto 4, 3) := by decide +kernel
theorem dL_holdsAll_237 : decode cL_holdsAll 237 = .ok (.iconst 0, 1) := by decide +kernel
theorem dL_holdsAll_238 : decode cL_holdsAll 238 = .ok (.istore 5, 2) := by decide +kernel
theorem dL_holdsAll_240 : decode cL_holdsAll 240 = .ok (.iconst 0, 1) := by decide +kernel
theorem dL_holdsAll_241 : decode cL_holdsAll 241 = .ok (.istore 8, 2) := by decide +kernel
theorem dL_holdsAll_243 : decode cL_holdsAll 243 = .ok (.iload 8, 2) := by decide +kernel
theorem dL_holdsAll_245 : decode cL_holdsAll 245 = .ok (.aload_n 0, 1) := by decide +kernel
theorem dL_holdsAll_246 : decode cL_holdsAll 246 = .ok (.iload 6, 2) := by decide +kernel
theorem dL_holdsAll_248 : decode cL_holdsAll 248 = .ok (.invokestatic 138, 3) := by decide +kernel
theorem dL_holdsAll_251 : decode cL_holdsAll 251 = .ok (.if_icmp .ge 68, 3) := by decide +kernel
theorem dL_holdsAll_254 : decode cL_holdsAll 254 = .ok (.iload 5, 2) := by decide +kernel
theorem dL_holdsAll_256 : decode cL_holdsAll 256 = .ok (.ifCond .eq 63, 3) := by decide +kernel
theorem dL_holdsAll_259 : decode cL_holdsAll 259 = .ok (.aload_n 0, 1) := by decide +kernel
theorem dL_holdsAll_260 : decode cL_holdsAll 260 = .ok (.iload 6, 2) := by decide +kernel
theorem dL_holdsAll_262 : decode cL_holdsAll 262 = .ok (.iload 8, 2) := by decide +kernel
theorem dL_holdsAll_264 : decode cL_holdsAll 264 = .ok (.invokestatic 140, 3) := by decide +kernel
theorem dL_holdsAll_267 : decode cL_holdsAll 267 = .ok (.istore 9, 2) := by decide +kernel
theorem dL_holdsAll_269 : decode cL_holdsAll 269 = .ok (.iload 9, 2) := by decide +kernel
theorem dL_holdsAll_271 : decode cL_holdsAll 271 = .ok (.ifCond .lt 39, 3) := by decide +kernel
theorem dL_holdsAll_274 : decode cL_holdsAll 274 = .ok (.iload 9, 2) := by decide +kernel
theorem dL_holdsAll_276 : decode cL_holdsAll 276 = .ok (.iconst 3, 1) := by decide +kernel
theorem dL_holdsAll_277 : decode cL_holdsAll 277 = .ok (.if_icmp .gt 33, 3) := by decide +kernel
theorem dL_holdsAll_280 : decode cL_holdsAll 280 = .ok (.aload_n 0, 1) := by decide +kernel
theorem dL_holdsAll_281 : decode cL_holdsAll 281 = .ok (.iload 6, 2) := by decide +kernel
theorem dL_holdsAll_283 : decode cL_holdsAll 283 = .ok (.iload 8, 2) := by decide +kernel
theorem dL_holdsAll_285 : decode cL_holdsAll 285 = .ok (.invokestatic 142, 3) := by decide +kernel
theorem dL_holdsAll_288 : decode cL_holdsAll 288 = .ok (.ifCond .lt 22, 3) := by decide +kernel
theorem dL_holdsAll_291 : decode cL_holdsAll 291 = .ok (.iload 9, 2) := by decide +kernel
theorem dL_holdsAll_293 : decode cL_holdsAll 293 = .ok (.iconst 3, 1) := by decide +kernel
theorem dL_holdsAll_294 : decode cL_holdsAll 294 = .ok (.if_icmp .ne 12, 3) := by decide +kernel
theorem dL_holdsAll_297 : decode cL_holdsAll 297 = .ok (.aload_n 0, 1) := by decide +kernel
theorem dL_holdsAll_298 : decode cL_holdsAll 298 = .ok (.invokevirtual 85, 3) := by decide +kernel
theorem dL_holdsAll_301 : decode cL_holdsAll 301 = .ok (.bipush 40, 2) := by decide +kernel
theorem dL_holdsAll_303 : decode cL_holdsAll 303 = .ok (.if_icmp .ne 7, 3) := by decide +kernel
theorem dL_holdsAll_306 : decode cL_holdsAll 306 = .ok (.iconst 1, 1) := by decide +kernel
theorem dL_holdsAll_307 : decode cL_holdsAll 307 = .ok (.goto 4, 3) := by decide +kernel
theorem dL_holdsAll_310 : decode cL_holdsAll 310 = .ok (.iconst 0, 1) := by decide +kernel
theorem dL_holdsAll_311 : decode cL_holdsAll 311 = .ok (.istore 5, 2) := by decide +kernel
theorem dL_holdsAll_313 : decode cL_holdsAll 313 = .ok (.iinc 8 1, 3) := by decide +kernel
theorem dL_holdsAll_316 : decode cL_holdsAll 316 = .ok (.goto (-73), 3) := by decide +kernel
theorem dL_holdsAll_319 : decode cL_holdsAll 319 = .ok (.iinc 6 1, 3) := by decide +kernel
theorem dL_holdsAll_322 : decode cL_holdsAll 322 = .ok (.goto (-308), 3) := by decide +kernel
theorem dL_holdsAll_325 : decode cL_holdsAll 325 = .ok (.iconst 0, 1) := by decide +kernel
theorem dL_holdsAll_326 : decode cL_holdsAll 326 = .ok (.istore 6, 2) := by decide +kernel
theorem dL_holdsAll_328 : decode cL_holdsAll 328 = .ok (.iload 6, 2) := by decide +kernel
theorem dL_holdsAll_330 : decode cL_holdsAll 330 = .ok (.aload_n 0, 1) := by decide +kernel
theorem dL_holdsAll_331 : decode cL_holdsAll 331 = .ok (.invokevirtual 85, 3) := by decide +kernel
theorem dL_holdsAll_334 : decode cL_holdsAll 334 = .ok (.if_icmp .ge 82, 3) := by decide +kernel
theorem dL_holdsAll_337 : decode cL_holdsAll 337 = .ok (.iload 5, 2) := by decide +kernel
theorem dL_holdsAll_339 : decode cL_holdsAll 339 = .ok (.ifCond .eq 77, 3) := by decide +kernel
theorem dL_holdsAll_342 : decode cL_holdsAll 342 = .ok (.iload 4, 2) := by decide +kernel
theorem dL_holdsAll_344 : decode cL_holdsAll 344 = .ok (.aload_n 0, 1) := by decide +kernel
theorem dL_holdsAll_345 : decode cL_holdsAll 345 = .ok (.iload 6, 2) := by decide +kernel
theorem dL_holdsAll_347 : decode cL_holdsAll 347 = .ok (.iconst 0, 1) := by decide +kernel
theorem dL_holdsAll_348 : decode cL_holdsAll 348 = .ok (.invokestatic 109, 3) := by decide +kernel
theorem dL_holdsAll_351 : decode cL_holdsAll 351 = .ok (.aload_n 0, 1) := by decide +kernel
theorem dL_holdsAll_352 : decode cL_holdsAll 352 = .ok (.iload 6, 2) := by decide +kernel
theorem dL_holdsAll_354 : decode cL_holdsAll 354 = .ok (.iconst 1, 1) := by decide +kernel
theorem dL_holdsAll_355 : decode cL_holdsAll 355 = .ok (.invokestatic 109, 3) := by decide +kernel
theorem dL_holdsAll_358 : decode cL_holdsAll 358 = .ok (.iadd, 1) := by decide +kernel
theorem dL_holdsAll_359 : decode cL_holdsAll 359 = .ok (.iadd, 1) := by decide +kernel
theorem dL_holdsAll_360 : decode cL_holdsAll 360 = .ok (.istore 4, 2) := by decide +kernel
theorem dL_holdsAll_362 : decode cL_holdsAll 362 = .ok (.aload_n 0, 1) := by decide +kernel
theorem dL_holdsAll_363 : decode cL_holdsAll 363 = .ok (.iload 6, 2) := by decide +kernel
theorem dL_holdsAll_365 : decode cL_holdsAll 365 = .ok (.iconst 0, 1) := by decide +kernel
theorem dL_holdsAll_366 : decode cL_holdsAll 366 = .ok (.invokestatic 107, 3) := by decide +kernel
theorem dL_holdsAll_369 : decode cL_holdsAll 369 = .ok (.ifCond .lt 38, 3) := by decide +kernel
theorem dL_holdsAll_372 : decode cL_holdsAll 372 = .ok (.aload_n 0, 1) := by decide +kernel
theorem dL_holdsAll_373 : decode cL_holdsAll 373 = .ok (.iload 6, 2) := by decide +kernel
theorem dL_holdsAll_375 : decode cL_holdsAll 375 = .ok (.iconst 0, 1) := by decide +kernel
theorem dL_holdsAll_376 : decode cL_holdsAll 376 = .ok (.invokestatic 107, 3) := by decide +kernel
theorem dL_holdsAll_379 : decode cL_holdsAll 379 = .ok (.iconst 2, 1) := by decide +kernel
theorem dL_holdsAll_380 : decode cL_holdsAll 380 = .ok (.if_icmp .gt 27, 3) := by decide +kernel
theorem dL_holdsAll_383 : decode cL_holdsAll 383 = .ok (.aload_n 0, 1) := by decide +kernel
theorem dL_holdsAll_384 : decode cL_holdsAll 384 = .ok (.iload 6, 2) := by decide +kernel
theorem dL_holdsAll_386 : decode cL_holdsAll 386 = .ok (.iconst 1, 1) := by decide +kernel
theorem dL_holdsAll_387 : decode cL_holdsAll 387 = .ok (.invokestatic 107, 3) := by decide +kernel
theorem dL_holdsAll_390 : decode cL_holdsAll 390 = .ok (.ifCond .lt 17, 3) := by decide +kernel
theorem dL_holdsAll_393 : decode cL_holdsAll 393 = .ok (.aload_n 0, 1) := by decide +kernel
theorem dL_holdsAll_394 : decode cL_holdsAll 394 = .ok (.iload 6, 2) := by decide +kernel
theorem dL_holdsAll_396 : decode cL_holdsAll 396 = .ok (.iconst 0, 1) := by decide +kernel
theorem dL_holdsAll_397 : decode cL_holdsAll 397 = .ok (.invokestatic 109, 3) := by decide +kernel
theorem dL_holdsAll_400 : decode cL_holdsAll 400 = .ok (.ifCond .lt 7, 3) := by decide +kernel
theorem dL_holdsAll_403 : decode cL_holdsAll 403 = .ok (.iconst 1, 1) := by decide +kernel
theorem dL_holdsAll_404 : decode cL_holdsAll 404 = .ok (.goto 4, 3) := by decide +kernel
theorem dL_holdsAll_407 : decode cL_holdsAll 407 = .ok (.iconst 0, 1) := by decide +kernel
theorem dL_holdsAll_408 : decode cL_holdsAll 408 = .ok (.istore 5, 2) := by decide +kernel
theorem dL_holdsAll_410 : decode cL_holdsAll 410 = .ok (.iinc 6 1, 3) := by decide +kernel
theorem dL_holdsAll_413 : decode cL_holdsAll 413 = .ok (.goto (-85), 3) := by decide +kernel
theorem dL_holdsAll_416 : decode cL_holdsAll 416 = .ok (.iload 5, 2) := by decide +kernel
theorem dL_holdsAll_418 : decode cL_holdsAll 418 = .ok (.ifCond .eq 17, 3) := by decide +kernel
theorem dL_holdsAll_421 : decode cL_holdsAll 421 = .ok (.iload_n 3, 1) := by decide +kernel
theorem dL_holdsAll_422 : decode cL_holdsAll 422 = .ok (.iload_n 2, 1) := by decide +kernel
theorem dL_holdsAll_423 : decode cL_holdsAll 423 = .ok (.if_icmp .ne 12, 3) := by decide +kernel
theorem dL_holdsAll_426 : decode cL_holdsAll 426 = .ok (.iload 4, 2) := by decide +kernel
theorem dL_holdsAll_428 : decode cL_holdsAll 428 = .ok (.ifCond .lt 7, 3) := by decide +kernel
theorem dL_holdsAll_431 : decode cL_holdsAll 431 = .ok (.iconst 1, 1) := by decide +kernel
theorem dL_holdsAll_432 : decode cL_holdsAll 432 = .ok (.goto 4, 3) := by decide +kernel
theorem dL_holdsAll_435 : decode cL_holdsAll 435 = .ok (.iconst 0, 1) := by decide +kernel
theorem dL_holdsAll_436 : decode cL_holdsAll 436 = .ok (.ireturn, 1) := by decide +kernel
theorem dL_fresh_0 : decode cL_fresh 0 = .ok (.iconst 0, 1) := by decide +kernel
theorem dL_fresh_1 : decode cL_fresh 1 = .ok (.istore_n 3, 1) := by decide +kernel
theorem dL_fresh_2 : decode cL_fresh 2 = .ok (.iconst 0, 1) := by decide +kernel
theorem dL_fresh_3 : decode cL_fresh 3 = .ok (.istore 4, 2) := by decide +kernel
theorem dL_fresh_5 : decode cL_fresh 5 = .ok (.iload 4, 2) := by decide +kernel
theorem dL_fresh_7 : decode cL_fresh 7 = .ok (.aload_n 1, 1) := by decide +kernel
theorem dL_fresh_8 : decode cL_fresh 8 = .ok (.iload_n 2, 1) := by decide +kernel
theorem dL_fresh_9 : decode cL_fresh 9 = .ok (.iaload, 1) := by decide +kernel
theorem dL_fresh_10 : decode cL_fresh 10 = .ok (.if_icmp .ge 32, 3) := by decide +kernel
theorem dL_fresh_13 : decode cL_fresh 13 = .ok (.iload_n 3, 1) := by decide +kernel
theorem dL_fresh_14 : decode cL_fresh 14 = .ok (.aload_n 0, 1) := by decide +kernel
theorem dL_fresh_15 : decode cL_fresh 15 = .ok (.iload_n 2, 1) := by decide +kernel
theorem dL_fresh_16 : decode cL_fresh 16 = .ok (.sipush 1000, 3) := by decide +kernel
theorem dL_fresh_19 : decode cL_fresh 19 = .ok (.iload 4, 2) := by decide +kernel
theorem dL_fresh_21 : decode cL_fresh 21 = .ok (.iadd, 1) := by decide +kernel
theorem dL_fresh_22 : decode cL_fresh 22 = .ok (.invokestatic 130, 3) := by decide +kernel
theorem dL_fresh_25 : decode cL_fresh 25 = .ok (.iconst (-1), 1) := by decide +kernel
theorem dL_fresh_26 : decode cL_fresh 26 = .ok (.if_icmp .ne 7, 3) := by decide +kernel
theorem dL_fresh_29 : decode cL_fresh 29 = .ok (.iconst 1, 1) := by decide +kernel
theorem dL_fresh_30 : decode cL_fresh 30 = .ok (.goto 4, 3) := by decide +kernel
theorem dL_fresh_33 : decode cL_fresh 33 = .ok (.iconst 0, 1) := by decide +kernel
theorem dL_fresh_34 : decode cL_fresh 34 = .ok (.iadd, 1) := by decide +kernel
theorem dL_fresh_35 : decode cL_fresh 35 = .ok (.istore_n 3, 1) := by decide +kernel
theorem dL_fresh_36 : decode cL_fresh 36 = .ok (.iinc 4 1, 3) := by decide +kernel
theorem dL_fresh_39 : decode cL_fresh 39 = .ok (.goto (-34), 3) := by decide +kernel
theorem dL_fresh_42 : decode cL_fresh 42 = .ok (.aload_n 0, 1) := by decide +kernel
theorem dL_fresh_43 : decode cL_fresh 43 = .ok (.iload_n 2, 1) := by decide +kernel
theorem dL_fresh_44 : decode cL_fresh 44 = .ok (.invokestatic 136, 3) := by decide +kernel
theorem dL_fresh_47 : decode cL_fresh 47 = .ok (.istore 4, 2) := by decide +kernel
theorem dL_fresh_49 : decode cL_fresh 49 = .ok (.iload 4, 2) := by decide +kernel
theorem dL_fresh_51 : decode cL_fresh 51 = .ok (.ifCond .ne 7, 3) := by decide +kernel
theorem dL_fresh_54 : decode cL_fresh 54 = .ok (.iconst 0, 1) := by decide +kernel
theorem dL_fresh_55 : decode cL_fresh 55 = .ok (.goto 10, 3) := by decide +kernel
theorem dL_fresh_58 : decode cL_fresh 58 = .ok (.aload_n 0, 1) := by decide +kernel
theorem dL_fresh_59 : decode cL_fresh 59 = .ok (.iload_n 2, 1) := by decide +kernel
theorem dL_fresh_60 : decode cL_fresh 60 = .ok (.bipush 100, 2) := by decide +kernel
theorem dL_fresh_62 : decode cL_fresh 62 = .ok (.invokestatic 133, 3) := by decide +kernel
theorem dL_fresh_65 : decode cL_fresh 65 = .ok (.istore 5, 2) := by decide +kernel
theorem dL_fresh_67 : decode cL_fresh 67 = .ok (.iconst 0, 1) := by decide +kernel
theorem dL_fresh_68 : decode cL_fresh 68 = .ok (.istore 6, 2) := by decide +kernel
theorem dL_fresh_70 : decode cL_fresh 70 = .ok (.iconst 0, 1) := by decide +kernel
theorem dL_fresh_71 : decode cL_fresh 71 = .ok (.istore 7, 2) := by decide +kernel
theorem dL_fresh_73 : decode cL_fresh 73 = .ok (.iload 7, 2) := by decide +kernel
theorem dL_fresh_75 : decode cL_fresh 75 = .ok (.aload_n 1, 1) := by decide +kernel
theorem dL_fresh_76 : decode cL_fresh 76 = .ok (.iload_n 2, 1) := by decide +kernel
theorem dL_fresh_77 : decode cL_fresh 77 = .ok (.iaload, 1) := by decide +kernel
theorem dL_fresh_78 : decode cL_fresh 78 = .ok (.if_icmp .ge 34, 3) := by decide +kernel
theorem dL_fresh_81 : decode cL_fresh 81 = .ok (.iload 6, 2) := by decide +kernel
theorem dL_fresh_83 : decode cL_fresh 83 = .ok (.aload_n 0, 1) := by decide +kernel
theorem dL_fresh_84 : decode cL_fresh 84 = .ok (.iload_n 2, 1) := by decide +kernel
theorem dL_fresh_85 : decode cL_fresh 85 = .ok (.sipush 1000, 3) := by decide +kernel
theorem dL_fresh_88 : decode cL_fresh 88 = .ok (.iload 7, 2) := by decide +kernel
theorem dL_fresh_90 : decode cL_fresh 90 = .ok (.iadd, 1) := by decide +kernel
theorem dL_fresh_91 : decode cL_fresh 91 = .ok (.invokestatic 130, 3) := by decide +kernel
theorem dL_fresh_94 : decode cL_fresh 94 = .ok (.iconst (-1), 1) := by decide +kernel
theorem dL_fresh_95 : decode cL_fresh 95 = .ok (.if_icmp .ne 7, 3) := by decide +kernel
theorem dL_fresh_98 : decode cL_fresh 98 = .ok (.iconst 1, 1) := by decide +kernel
theorem dL_fresh_99 : decode cL_fresh 99 = .ok (.goto 4, 3) := by decide +kernel
theorem dL_fresh_102 : decode cL_fresh 102 = .ok (.iconst 0, 1) := by decide +kernel
theorem dL_fresh_103 : decode cL_fresh 103 = .ok (.iadd, 1) := by decide +kernel
theorem dL_fresh_104 : decode cL_fresh 104 = .ok (.istore 6, 2) := by decide +kernel
theorem dL_fresh_106 : decode cL_fresh 106 = .ok (.iinc 7 1, 3) := by decide +kernel
theorem dL_fresh_109 : decode cL_fresh 109 = .ok (.goto (-36), 3) := by decide +kernel
theorem dL_fresh_112 : decode cL_fresh 112 = .ok (.iconst 0, 1) := by decide +kernel
theorem dL_fresh_113 : decode cL_fresh 113 = .ok (.istore 7, 2) := by decide +kernel
theorem dL_fresh_115 : decode cL_fresh 115 = .ok (.iconst 0, 1) := by decide +kernel
theorem dL_fresh_116 : decode cL_fresh 116 = .ok (.istore 8, 2) := by decide +kernel
theorem dL_fresh_118 : decode cL_fresh 118 = .ok (.iload 8, 2) := by decide +kernel
theorem dL_fresh_120 : decode cL_fresh 120 = .ok (.aload_n 0, 1) := by decide +kernel
theorem dL_fresh_121 : decode cL_fresh 121 = .ok (.invokevirtual 85, 3) := by decide +kernel
theorem dL_fresh_124 : decode cL_fresh 124 = .ok (.if_icmp .ge 29, 3) := by decide +kernel
theorem dL_fresh_127 : decode cL_fresh 127 = .ok (.iload 7, 2) := by decide +kernel
theorem dL_fresh_129 : decode cL_fresh 129 = .ok (.aload_n 0, 1) := by decide +kernel
theorem dL_fresh_130 : decode cL_fresh 130 = .ok (.iload 8, 2) := by decide +kernel
theorem dL_fresh_132 : decode cL_fresh 132 = .ok (.invokestatic 102, 3) := by decide +kernel
theorem dL_fresh_135 : decode cL_fresh 135 = .ok (.iload_n 2, 1) := by decide +kernel
theorem dL_fresh_136 : decode cL_fresh 136 = .ok (.if_icmp .ne 7, 3) := by decide +kernel
theorem dL_fresh_139 : decode cL_fresh 139 = .ok (.iconst 1, 1) := by decide +kernel
theorem dL_fresh_140 : decode cL_fresh 140 = .ok (.goto 4, 3) := by decide +kernel
theorem dL_fresh_143 : decode cL_fresh 143 = .ok (.iconst 0, 1) := by decide +kernel
theorem dL_fresh_144 : decode cL_fresh 144 = .ok (.iadd, 1) := by decide +kernel
theorem dL_fresh_145 : decode cL_fresh 145 = .ok (.istore 7, 2) := by decide +kernel
theorem dL_fresh_147 : decode cL_fresh 147 = .ok (.iinc 8 1, 3) := by decide +kernel
theorem dL_fresh_150 : decode cL_fresh 150 = .ok (.goto (-32), 3) := by decide +kernel
theorem dL_fresh_153 : decode cL_fresh 153 = .ok (.aload_n 0, 1) := by decide +kernel
theorem dL_fresh_154 : decode cL_fresh 154 = .ok (.iload_n 2, 1) := by decide +kernel
theorem dL_fresh_155 : decode cL_fresh 155 = .ok (.iconst 3, 1) := by decide +kernel
theorem dL_fresh_156 : decode cL_fresh 156 = .ok (.invokestatic 111, 3) := by decide +kernel
theorem dL_fresh_159 : decode cL_fresh 159 = .ok (.istore 8, 2) := by decide +kernel
theorem dL_fresh_161 : decode cL_fresh 161 = .ok (.iload 5, 2) := by decide +kernel
theorem dL_fresh_163 : decode cL_fresh 163 = .ok (.ifCond .lt 73, 3) := by decide +kernel
theorem dL_fresh_166 : decode cL_fresh 166 = .ok (.iload 6, 2) := by decide +kernel
theorem dL_fresh_168 : decode cL_fresh 168 = .ok (.iload_n 3, 1) := by decide +kernel
theorem dL_fresh_169 : decode cL_fresh 169 = .ok (.if_icmp .gt 67, 3) := by decide +kernel
theorem dL_fresh_172 : decode cL_fresh 172 = .ok (.aload_n 0, 1) := by decide +kernel
theorem dL_fresh_173 : decode cL_fresh 173 = .ok (.iload_n 2, 1) := by decide +kernel
theorem dL_fresh_174 : decode cL_fresh 174 = .ok (.invokestatic 136, 3) := by decide +kernel
theorem dL_fresh_177 : decode cL_fresh 177 = .ok (.ifCond .ne 59, 3) := by decide +kernel
theorem dL_fresh_180 : decode cL_fresh 180 = .ok (.iload 8, 2) := by decide +kernel
theorem dL_fresh_182 : decode cL_fresh 182 = .ok (.ifCond .lt 54, 3) := by decide +kernel
theorem dL_fresh_185 : decode cL_fresh 185 = .ok (.aload_n 0, 1) := by decide +kernel
theorem dL_fresh_186 : decode cL_fresh 186 = .ok (.iload_n 2, 1) := by decide +kernel
theorem dL_fresh_187 : decode cL_fresh 187 = .ok (.invokestatic 114, 3) := by decide +kernel
theorem dL_fresh_190 : decode cL_fresh 190 = .ok (.iload 6, 2) := by decide +kernel
theorem dL_fresh_192 : decode cL_fresh 192 = .ok (.iload 7, 2) := by decide +kernel
theorem dL_fresh_194 : decode cL_fresh 194 = .ok (.iconst 3, 1) := by decide +kernel
theorem dL_fresh_195 : decode cL_fresh 195 = .ok (.if_icmp .ge 8, 3) := by decide +kernel
theorem dL_fresh_198 : decode cL_fresh 198 = .ok (.iload 7, 2) := by decide +kernel
theorem dL_fresh_200 : decode cL_fresh 200 = .ok (.goto 4, 3) := by decide +kernel
theorem dL_fresh_203 : decode cL_fresh 203 = .ok (.iconst 3, 1) := by decide +kernel
theorem dL_fresh_204 : decode cL_fresh 204 = .ok (.iadd, 1) := by decide +kernel
theorem dL_fresh_205 : decode cL_fresh 205 = .ok (.if_icmp .ne 31, 3) := by decide +kernel
theorem dL_fresh_208 : decode cL_fresh 208 = .ok (.aload_n 0, 1) := by decide +kernel
theorem dL_fresh_209 : decode cL_fresh 209 = .ok (.iload_n 2, 1) := by decide +kernel
theorem dL_fresh_210 : decode cL_fresh 210 = .ok (.bipush 40, 2) := by decide +kernel
theorem dL_fresh_212 : decode cL_fresh 212 = .ok (.invokestatic 111, 3) := by decide +kernel
theorem dL_fresh_215 : decode cL_fresh 215 = .ok (.iconst 3, 1) := by decide +kernel
theorem dL_fresh_216 : decode cL_fresh 216 = .ok (.if_icmp .ne 20, 3) := by decide +kernel
theorem dL_fresh_219 : decode cL_fresh 219 = .ok (.aload_n 0, 1) := by decide +kernel
theorem dL_fresh_220 : decode cL_fresh 220 = .ok (.iload_n 2, 1) := by decide +kernel
theorem dL_fresh_221 : decode cL_fresh 221 = .ok (.invokestatic 114, 3) := by decide +kernel
theorem dL_fresh_224 : decode cL_fresh 224 = .ok (.iload 6, 2) := by decide +kernel
theorem dL_fresh_226 : decode cL_fresh 226 = .ok (.iload 7, 2) := by decide +kernel
theorem dL_fresh_228 : decode cL_fresh 228 = .ok (.iadd, 1) := by decide +kernel
theorem dL_fresh_229 : decode cL_fresh 229 = .ok (.if_icmp .ne 7, 3) := by decide +kernel
theorem dL_fresh_232 : decode cL_fresh 232 = .ok (.iconst 1, 1) := by decide +kernel
theorem dL_fresh_233 : decode cL_fresh 233 = .ok (.goto 4, 3) := by decide +kernel
theorem dL_fresh_236 : decode cL_fresh 236 = .ok (.iconst 0, 1) := by decide +kernel
theorem dL_fresh_237 : decode cL_fresh 237 = .ok (.istore 9, 2) := by decide +kernel
theorem dL_fresh_239 : decode cL_fresh 239 = .ok (.iconst 0, 1) := by decide +kernel
theorem dL_fresh_240 : decode cL_fresh 240 = .ok (.istore 10, 2) := by decide +kernel
theorem dL_fresh_242 : decode cL_fresh 242 = .ok (.iload 10, 2) := by decide +kernel
theorem dL_fresh_244 : decode cL_fresh 244 = .ok (.aload_n 0, 1) := by decide +kernel
theorem dL_fresh_245 : decode cL_fresh 245 = .ok (.invokevirtual 85, 3) := by decide +kernel
theorem dL_fresh_248 : decode cL_fresh 248 = .ok (.if_icmp .ge 208, 3) := by decide +kernel
theorem dL_fresh_251 : decode cL_fresh 251 = .ok (.iload 9, 2) := by decide +kernel
theorem dL_fresh_253 : decode cL_fresh 253 = .ok (.ifCond .eq 203, 3) := by decide +kernel
theorem dL_fresh_256 : decode cL_fresh 256 = .ok (.aload_n 0, 1) := by decide +kernel
theorem dL_fresh_257 : decode cL_fresh 257 = .ok (.iload 10, 2) := by decide +kernel
theorem dL_fresh_259 : decode cL_fresh 259 = .ok (.invokestatic 102, 3) := by decide +kernel
theorem dL_fresh_262 : decode cL_fresh 262 = .ok (.iload_n 2, 1) := by decide +kernel
theorem dL_fresh_263 : decode cL_fresh 263 = .ok (.if_icmp .ne 7, 3) := by decide +kernel
theorem dL_fresh_266 : decode cL_fresh 266 = .ok (.iconst 1, 1) := by decide +kernel
theorem dL_fresh_267 : decode cL_fresh 267 = .ok (.goto 4, 3) := by decide +kernel
theorem dL_fresh_270 : decode cL_fresh 270 = .ok (.iconst 0, 1) := by decide +kernel
theorem dL_fresh_271 : decode cL_fresh 271 = .ok (.istore 11, 2) := by decide +kernel
theorem dL_fresh_273 : decode cL_fresh 273 = .ok (.aload_n 0, 1) := by decide +kernel
theorem dL_fresh_274 : decode cL_fresh 274 = .ok (.iload_n 2, 1) := by decide +kernel
theorem dL_fresh_275 : decode cL_fresh 275 = .ok (.iload 10, 2) := by decide +kernel
theorem dL_fresh_277 : decode cL_fresh 277 = .ok (.invokestatic 119, 3) := by decide +kernel
theorem dL_fresh_280 : decode cL_fresh 280 = .ok (.iload 11, 2) := by decide +kernel
theorem dL_fresh_282 : decode cL_fresh 282 = .ok (.ifCond .eq 7, 3) := by decide +kernel
theorem dL_fresh_285 : decode cL_fresh 285 = .ok (.iconst 1, 1) := by decide +kernel
theorem dL_fresh_286 : decode cL_fresh 286 = .ok (.goto 4, 3) := by decide +kernel
theorem dL_fresh_289 : decode cL_fresh 289 = .ok (.iconst 0, 1) := by decide +kernel
theorem dL_fresh_290 : decode cL_fresh 290 = .ok (.if_icmp .ne 48, 3) := by decide +kernel
theorem dL_fresh_293 : decode cL_fresh 293 = .ok (.iload 11, 2) := by decide +kernel
theorem dL_fresh_295 : decode cL_fresh 295 = .ok (.ifCond .eq 39, 3) := by decide +kernel
theorem dL_fresh_298 : decode cL_fresh 298 = .ok (.aload_n 0, 1) := by decide +kernel
theorem dL_fresh_299 : decode cL_fresh 299 = .ok (.iload_n 2, 1) := by decide +kernel
theorem dL_fresh_300 : decode cL_fresh 300 = .ok (.iload 10, 2) := by decide +kernel
theorem dL_fresh_302 : decode cL_fresh 302 = .ok (.iconst 0, 1) := by decide +kernel
theorem dL_fresh_303 : decode cL_fresh 303 = .ok (.invokestatic 121, 3) := by decide +kernel
theorem dL_fresh_306 : decode cL_fresh 306 = .ok (.aload_n 0, 1) := by decide +kernel
theorem dL_fresh_307 : decode cL_fresh 307 = .ok (.iload 10, 2) := by decide +kernel
theorem dL_fresh_309 : decode cL_fresh 309 = .ok (.iconst 0, 1) := by decide +kernel
theorem dL_fresh_310 : decode cL_fresh 310 = .ok (.invokestatic 107, 3) := by decide +kernel
theorem dL_fresh_313 : decode cL_fresh 313 = .ok (.if_icmp .ne 25, 3) := by decide +kernel
theorem dL_fresh_316 : decode cL_fresh 316 = .ok (.aload_n 0, 1) := by decide +kernel
theorem dL_fresh_317 : decode cL_fresh 317 = .ok (.iload_n 2, 1) := by decide +kernel
theorem dL_fresh_318 : decode cL_fresh 318 = .ok (.iload 10, 2) := by decide +kernel
theorem dL_fresh_320 : decode cL_fresh 320 = .ok (.iconst 1, 1) := by decide +kernel
theorem dL_fresh_321 : decode cL_fresh 321 = .ok (.invokestatic 121, 3) := by decide +kernel
theorem dL_fresh_324 : decode cL_fresh 324 = .ok (.aload_n 0, 1) := by decide +kernel
theorem dL_fresh_325 : decode cL_fresh 325 = .ok (.iload 10, 2) := by decide +kernel
theorem dL_fresh_327 : decode cL_fresh 327 = .ok (.iconst 1, 1) := by decide +kernel
theorem dL_fresh_328 : decode cL_fresh 328 = .ok (.invokestatic 107, 3) := by decide +kernel
theorem dL_fresh_331 : decode cL_fresh 331 = .ok (.if_icmp .ne 7, 3) := by decide +kernel
theorem dL_fresh_334 : decode cL_fresh 334 = .ok (.iconst 1, 1) := by decide +kernel
theorem dL_fresh_335 : decode cL_fresh 335 = .ok (.goto 4, 3) := by decide +kernel
theorem dL_fresh_338 : decode cL_fresh 338 = .ok (.iconst 0, 1) := by decide +kernel
theorem dL_fresh_339 : decode cL_fresh 339 = .ok (.istore 9, 2) := by decide +kernel
theorem dL_fresh_341 : decode cL_fresh 341 = .ok (.aload_n 0, 1) := by decide +kernel
theorem dL_fresh_342 : decode cL_fresh 342 = .ok (.iload 10, 2) := by decide +kernel
theorem dL_fresh_344 : decode cL_fresh 344 = .ok (.iconst 0, 1) := by decide +kernel
theorem dL_fresh_345 : decode cL_fresh 345 = .ok (.invokestatic 107, 3) := by decide +kernel
theorem dL_fresh_348 : decode cL_fresh 348 = .ok (.istore 12, 2) := by decide +kernel
theorem dL_fresh_350 : decode cL_fresh 350 = .ok (.iload 9, 2) := by decide +kernel
theorem dL_fresh_352 : decode cL_fresh 352 = .ok (.ifCond .eq 98, 3) := by decide +kernel
theorem dL_fresh_355 : decode cL_fresh 355 = .ok (.iload 11, 2) := by decide +kernel
theorem dL_fresh_357 : decode cL_fresh 357 = .ok (.ifCond .eq 93, 3) := by decide +kernel
theorem dL_fresh_360 : decode cL_fresh 360 = .ok (.iload 12, 2) := by decide +kernel
theorem dL_fresh_362 : decode cL_fresh 362 = .ok (.iconst 2, 1) := by decide +kernel
theorem dL_fresh_363 : decode cL_fresh 363 = .ok (.if_icmp .ge 87, 3) := by decide +kernel
theorem dL_fresh_366 : decode cL_fresh 366 = .ok (.aload_n 0, 1) := by decide +kernel
theorem dL_fresh_367 : decode cL_fresh 367 = .ok (.iload_n 2, 1) := by decide +kernel
theorem dL_fresh_368 : decode cL_fresh 368 = .ok (.iload 10, 2) := by decide +kernel
theorem dL_fresh_370 : decode cL_fresh 370 = .ok (.iconst 0, 1) := by decide +kernel
theorem dL_fresh_371 : decode cL_fresh 371 = .ok (.iload 12, 2) := by decide +kernel
theorem dL_fresh_373 : decode cL_fresh 373 = .ok (.iconst 1, 1) := by decide +kernel
theorem dL_fresh_374 : decode cL_fresh 374 = .ok (.iadd, 1) := by decide +kernel
theorem dL_fresh_375 : decode cL_fresh 375 = .ok (.invokestatic 123, 3) := by decide +kernel
theorem dL_fresh_378 : decode cL_fresh 378 = .ok (.iconst 1, 1) := by decide +kernel
theorem dL_fresh_379 : decode cL_fresh 379 = .ok (.if_icmp .ne 68, 3) := by decide +kernel
theorem dL_fresh_382 : decode cL_fresh 382 = .ok (.aload_n 0, 1) := by decide +kernel
theorem dL_fresh_383 : decode cL_fresh 383 = .ok (.iload_n 2, 1) := by decide +kernel
theorem dL_fresh_384 : decode cL_fresh 384 = .ok (.bipush 9, 2) := by decide +kernel
theorem dL_fresh_386 : decode cL_fresh 386 = .ok (.invokestatic 133, 3) := by decide +kernel
theorem dL_fresh_389 : decode cL_fresh 389 = .ok (.iconst 1, 1) := by decide +kernel
theorem dL_fresh_390 : decode cL_fresh 390 = .ok (.if_icmp .ne 57, 3) := by decide +kernel
theorem dL_fresh_393 : decode cL_fresh 393 = .ok (.aload_n 0, 1) := by decide +kernel
theorem dL_fresh_394 : decode cL_fresh 394 = .ok (.iload 10, 2) := by decide +kernel
theorem dL_fresh_396 : decode cL_fresh 396 = .ok (.iconst 0, 1) := by decide +kernel
theorem dL_fresh_397 : decode cL_fresh 397 = .ok (.invokestatic 107, 3) := by decide +kernel
theorem dL_fresh_400 : decode cL_fresh 400 = .ok (.iload 12, 2) := by decide +kernel
theorem dL_fresh_402 : decode cL_fresh 402 = .ok (.iconst 1, 1) := by decide +kernel
theorem dL_fresh_403 : decode cL_fresh 403 = .ok (.iadd, 1) := by decide +kernel
theorem dL_fresh_404 : decode cL_fresh 404 = .ok (.if_icmp .ne 43, 3) := by decide +kernel
theorem dL_fresh_407 : decode cL_fresh 407 = .ok (.aload_n 0, 1) := by decide +kernel
theorem dL_fresh_408 : decode cL_fresh 408 = .ok (.iload_n 2, 1) := by decide +kernel
theorem dL_fresh_409 : decode cL_fresh 409 = .ok (.iload 10, 2) := by decide +kernel
theorem dL_fresh_411 : decode cL_fresh 411 = .ok (.iconst 1, 1) := by decide +kernel
theorem dL_fresh_412 : decode cL_fresh 412 = .ok (.bipush 77, 2) := by decide +kernel
theorem dL_fresh_414 : decode cL_fresh 414 = .ok (.invokestatic 123, 3) := by decide +kernel
theorem dL_fresh_417 : decode cL_fresh 417 = .ok (.iconst 1, 1) := by decide +kernel
theorem dL_fresh_418 : decode cL_fresh 418 = .ok (.if_icmp .ne 29, 3) := by decide +kernel
theorem dL_fresh_421 : decode cL_fresh 421 = .ok (.aload_n 0, 1) := by decide +kernel
theorem dL_fresh_422 : decode cL_fresh 422 = .ok (.iload_n 2, 1) := by decide +kernel
theorem dL_fresh_423 : decode cL_fresh 423 = .ok (.iconst 1, 1) := by decide +kernel
theorem dL_fresh_424 : decode cL_fresh 424 = .ok (.invokestatic 133, 3) := by decide +kernel
theorem dL_fresh_427 : decode cL_fresh 427 = .ok (.iconst 1, 1) := by decide +kernel
theorem dL_fresh_428 : decode cL_fresh 428 = .ok (.if_icmp .ne 19, 3) := by decide +kernel
theorem dL_fresh_431 : decode cL_fresh 431 = .ok (.aload_n 0, 1) := by decide +kernel
theorem dL_fresh_432 : decode cL_fresh 432 = .ok (.iload 10, 2) := by decide +kernel
theorem dL_fresh_434 : decode cL_fresh 434 = .ok (.iconst 1, 1) := by decide +kernel
theorem dL_fresh_435 : decode cL_fresh 435 = .ok (.invokestatic 107, 3) := by decide +kernel
theorem dL_fresh_438 : decode cL_fresh 438 = .ok (.bipush 77, 2) := by decide +kernel
theorem dL_fresh_440 : decode cL_fresh 440 = .ok (.if_icmp .ne 7, 3) := by decide +kernel
theorem dL_fresh_443 : decode cL_fresh 443 = .ok (.iconst 1, 1) := by decide +kernel
theorem dL_fresh_444 : decode cL_fresh 444 = .ok (.goto 4, 3) := by decide +kernel
theorem dL_fresh_447 : decode cL_fresh 447 = .ok (.iconst 0, 1) := by decide +kernel
theorem dL_fresh_448 : decode cL_fresh 448 = .ok (.istore 9, 2) := by decide +kernel
theorem dL_fresh_450 : decode cL_fresh 450 = .ok (.iinc 10 1, 3) := by decide +kernel
theorem dL_fresh_453 : decode cL_fresh 453 = .ok (.goto (-211), 3) := by decide +kernel
theorem dL_fresh_456 : decode cL_fresh 456 = .ok (.iload 9, 2) := by decide +kernel
theorem dL_fresh_458 : decode cL_fresh 458 = .ok (.ifCond .eq 19, 3) := by decide +kernel
theorem dL_fresh_461 : decode cL_fresh 461 = .ok (.aload_n 0, 1) := by decide +kernel
theorem dL_fresh_462 : decode cL_fresh 462 = .ok (.iload_n 2, 1) := by decide +kernel
theorem dL_fresh_463 : decode cL_fresh 463 = .ok (.iload 8, 2) := by decide +kernel
theorem dL_fresh_465 : decode cL_fresh 465 = .ok (.invokestatic 111, 3) := by decide +kernel
theorem dL_fresh_468 : decode cL_fresh 468 = .ok (.bipush 40, 2) := by decide +kernel
theorem dL_fresh_470 : decode cL_fresh 470 = .ok (.if_icmp .ne 7, 3) := by decide +kernel
theorem dL_fresh_473 : decode cL_fresh 473 = .ok (.iconst 1, 1) := by decide +kernel
theorem dL_fresh_474 : decode cL_fresh 474 = .ok (.goto 4, 3) := by decide +kernel
theorem dL_fresh_477 : decode cL_fresh 477 = .ok (.iconst 0, 1) := by decide +kernel
theorem dL_fresh_478 : decode cL_fresh 478 = .ok (.ireturn, 1) := by decide +kernel
end
section
theorem kbs_1 : ∀ w ∈ wsL_law0_r1, w ∈ wsL_law := fun _ h => List.mem_append_left _ (List.mem_append_left _ (List.mem_append_left _ (List.mem_append_left _ (List.mem_append_left _ (List.mem_append_left _ (List.mem_append_left _ (List.mem_append_left _ (List.mem_append_left _ (List.mem_append_left _ (List.mem_append_left _ (List.mem_append_left _ h)))))))))))
theorem kbs_2 : ∀ w ∈ wsL_law0_r2, w ∈ wsL_law := fun _ h => List.mem_append_left _ (List.mem_append_left _ (List.mem_append_left _ (List.mem_append_left _ (List.mem_append_left _ (List.mem_append_left _ (List.mem_append_left _ (List.mem_append_left _ (List.mem_append_left _ (List.mem_append_left _ (List.mem_append_left _ (List.mem_append_right _ (List.mem_append_left _ h))))))))))))
theorem kbs_3 : ∀ w ∈ wsL_law0_r3, w ∈ wsL_law := fun _ h => List.mem_append_left _ (List.mem_append_left _ (List.mem_append_left _ (List.mem_append_left _ (List.mem_append_left _ (List.mem_append_left _ (List.mem_append_left _ (List.mem_append_left _ (List.mem_append_left _ (List.mem_append_left _ (List.mem_append_left _ (List.mem_append_right _ (List.mem_append_right _ (List.mem_append_left _ h)))))))))))))
theorem kbs_4 : ∀ w ∈ wsL_law0_r4, w ∈ wsL_law := fun _ h => List.mem_append_left _ (List.mem_append_left _ (List.mem_append_left _ (List.mem_append_left _ (List.mem_append_left _ (List.mem_append_left _ (List.mem_append_left _ (List.mem_append_left _ (List.mem_append_left _ (List.mem_append_left _ (List.mem_append_left _ (List.mem_append_right _ (List.mem_append_right _ (List.mem_append_right _ (List.mem_append_left _ h))))))))))))))
theorem kbs_5 : ∀ w ∈ wsL_law0_r5, w ∈ wsL_law := fun _ h => List.mem_append_left _ (List.mem_append_left _ (List.mem_append_left _ (List.mem_append_left _ (List.mem_append_left _ (List.mem_append_left _ (List.mem_append_left _ (List.mem_append_left _ (List.mem_append_left _ (List.mem_append_left _ (List.mem_append_left _ (List.mem_append_right _ (List.mem_append_right _ (List.mem_append_right _ (List.mem_append_right _ (List.mem_append_left _ h)))))))))))))))
theorem kbs_6 : ∀ w ∈ wsL_law0_r6, w ∈ wsL_law := fun _ h => List.mem_append_left _ (List.mem_append_left _ (List.mem_append_left _ (List.mem_append_left _ (List.mem_append_left _ (List.mem_append_left _ (List.mem_append_left _ (List.mem_append_left _ (List.mem_append_left _ (List.mem_append_left _ (List.mem_append_left _ (List.mem_append_right _ (List.mem_append_right _ (List.mem_append_right _ (List.mem_append_right _ (List.mem_append_right _ (List.mem_append_left _ h))))))))))))))))
theorem kbs_7 : ∀ w ∈ wsL_law0_r7, w ∈ wsL_law := fun _ h => List.mem_append_left _ (List.mem_append_left _ (List.mem_append_left _ (List.mem_append_left _ (List.mem_append_left _ (List.mem_append_left _ (List.mem_append_left _ (List.mem_append_left _ (List.mem_append_left _ (List.mem_append_left _ (List.mem_append_left _ (List.mem_append_right _ (List.mem_append_right _ (List.mem_append_right _ (List.mem_append_right _ (List.mem_append_right _ (List.mem_append_right _ (List.mem_append_left _ h)))))))))))))))))
theorem kbs_8 : ∀ w ∈ wsL_law0_r8, w ∈ wsL_law := fun _ h => List.mem_append_left _ (List.mem_append_left _ (List.mem_append_left _ (List.mem_append_left _ (List.mem_append_left _ (List.mem_append_left _ (List.mem_append_left _ (List.mem_append_left _ (List.mem_append_left _ (List.mem_append_left _ (List.mem_append_left _ (List.mem_append_right _ (List.mem_append_right _ (List.mem_append_right _ (List.mem_append_right _ (List.mem_append_right _ (List.mem_append_right _ (List.mem_append_right _ (List.mem_append_left _ h))))))))))))))))))
theorem kbs_9 : ∀ w ∈ wsL_law0_r9, w ∈ wsL_law := fun _ h => List.mem_append_left _ (List.mem_append_left _ (List.mem_append_left _ (List.mem_append_left _ (List.mem_append_left _ (List.mem_append_left _ (List.mem_append_left _ (List.mem_append_left _ (List.mem_append_left _ (List.mem_append_left _ (List.mem_append_left _ (List.mem_append_right _ (List.mem_append_right _ (List.mem_append_right _ (List.mem_append_right _ (List.mem_append_right _ (List.mem_append_right _ (List.mem_append_right _ (List.mem_append_right _ (List.mem_append_left _ h)))))))))))))))))))
theorem kbs_10 : ∀ w ∈ wsL_law0_r10, w ∈ wsL_law := fun _ h => List.mem_append_left _ (List.mem_append_left _ (List.mem_append_left _ (List.mem_append_left _ (List.mem_append_left _ (List.mem_append_left _ (List.mem_append_left _ (List.mem_append_left _ (List.mem_append_left _ (List.mem_append_left _ (List.mem_append_left _ (List.mem_append_right _ (List.mem_append_right _ (List.mem_append_right _ (List.mem_append_right _ (List.mem_append_right _ (List.mem_append_right _ (List.mem_append_right _ (List.mem_append_right _ (List.mem_append_right _ (List.mem_append_left _ h))))))))))))))))))))
theorem kbs_11 : ∀ w ∈ wsL_law0_r11, w ∈ wsL_law := fun _ h => List.mem_append_left _ (List.mem_append_left _ (List.mem_append_left _ (List.mem_append_left _ (List.mem_append_left _ (List.mem_append_left _ (List.mem_append_left _ (List.mem_append_left _ (List.mem_append_left _ (List.mem_append_left _ (List.mem_append_left _ (List.mem_append_right _ (List.mem_append_right _ (List.mem_append_right _ (List.mem_append_right _ (List.mem_append_right _ (List.mem_append_right _ (List.mem_append_right _ (List.mem_append_right _ (List.mem_append_right _ (List.mem_append_right _ (List.mem_append_left _ h)))))))))))))))))))))
theorem kbs_12 : ∀ w ∈ wsL_law0_r12, w ∈ wsL_law := fun _ h => List.mem_append_left _ (List.mem_append_left _ (List.mem_append_left _ (List.mem_append_left _ (List.mem_append_left _ (List.mem_append_left _ (List.mem_append_left _ (List.mem_append_left _ (List.mem_append_left _ (List.mem_append_left _ (List.mem_append_left _ (List.mem_append_right _ (List.mem_append_right _ (List.mem_append_right _ (List.mem_append_right _ (List.mem_append_right _ (List.mem_append_right _ (List.mem_append_right _ (List.mem_append_right _ (List.mem_append_right _ (List.mem_append_right _ (List.mem_append_right _ (List.mem_append_left _ h))))))))))))))))))))))
theorem kbs_13 : ∀ w ∈ wsL_law0_r13, w ∈ wsL_law := fun _ h => List.mem_append_left _ (List.mem_append_left _ (List.mem_append_left _ (List.mem_append_left _ (List.mem_append_left _ (List.mem_append_left _ (List.mem_append_left _ (List.mem_append_left _ (List.mem_append_left _ (List.mem_append_left _ (List.mem_append_left _ (List.mem_append_right _ (List.mem_append_right _ (List.mem_append_right _ (List.mem_append_right _ (List.mem_append_right _ (List.mem_append_right _ (List.mem_append_right _ (List.mem_append_right _ (List.mem_append_right _ (List.mem_append_right _ (List.mem_append_right _ (List.mem_append_right _ (List.mem_append_left _ h)))))))))))))))))))))))
theorem kbs_14 : ∀ w ∈ wsL_law0_r14, w ∈ wsL_law := fun _ h => List.mem_append_left _ (List.mem_append_left _ (List.mem_append_left _ (List.mem_append_left _ (List.mem_append_left _ (List.mem_append_left _ (List.mem_append_left _ (List.mem_append_left _ (List.mem_append_left _ (List.mem_append_left _ (List.mem_append_left _ (List.mem_append_right _ (List.mem_append_right _ (List.mem_append_right _ (List.mem_append_right _ (List.mem_append_right _ (List.mem_append_right _ (List.mem_append_right _ (List.mem_append_right _ (List.mem_append_right _ (List.mem_append_right _ (List.mem_append_right _ (List.mem_append_right _ (List.mem_append_right _ (List.mem_append_left _ h))))))))))))))))))))))))
theorem kbs_15 : ∀ w ∈ wsL_law0_r15, w ∈ wsL_law := fun _ h => List.mem_append_left _ (List.mem_append_left _ (List.mem_append_left _ (List.mem_append_left _ (List.mem_append_left _ (List.mem_append_left _ (List.mem_append_left _ (List.mem_append_left _ (List.mem_append_left _ (List.mem_append_left _ (List.mem_append_left _ (List.mem_append_right _ (List.mem_append_right _ (List.mem_append_right _ (List.mem_append_right _ (List.mem_append_right _ (List.mem_append_right _ (List.mem_append_right _ (List.mem_append_right _ (List.mem_append_right _ (List.mem_append_right _ (List.mem_append_right _ (List.mem_append_right _ (List.mem_append_right _ (List.mem_append_right _ (List.mem_append_left _ h)))))))))))))))))))))))))
theorem kbs_16 : ∀ w ∈ wsL_law0_r16, w ∈ wsL_law := fun _ h => List.mem_append_left _ (List.mem_append_left _ (List.mem_append_left _ (List.mem_append_left _ (List.mem_append_left _ (List.mem_append_left _ (List.mem_append_left _ (List.mem_append_left _ (List.mem_append_left _ (List.mem_append_left _ (List.mem_append_left _ (List.mem_append_right _ (List.mem_append_right _ (List.mem_append_right _ (List.mem_append_right _ (List.mem_append_right _ (List.mem_append_right _ (List.mem_append_right _ (List.mem_append_right _ (List.mem_append_right _ (List.mem_append_right _ (List.mem_append_right _ (List.mem_append_right _ (List.mem_append_right _ (List.mem_append_right _ (List.mem_append_right _ (List.mem_append_left _ h))))))))))))))))))))))))))
theorem kbs_17 : ∀ w ∈ wsL_law0_r17, w ∈ wsL_law := fun _ h => List.mem_append_left _ (List.mem_append_left _ (List.mem_append_left _ (List.mem_append_left _ (List.mem_append_left _ (List.mem_append_left _ (List.mem_append_left _ (List.mem_append_left _ (List.mem_append_left _ (List.mem_append_left _ (List.mem_append_left _ (List.mem_append_right _ (List.mem_append_right _ (List.mem_append_right _ (List.mem_append_right _ (List.mem_append_right _ (List.mem_append_right _ (List.mem_append_right _ (List.mem_append_right _ (List.mem_append_right _ (List.mem_append_right _ (List.mem_append_right _ (List.mem_append_right _ (List.mem_append_right _ (List.mem_append_right _ (List.mem_append_right _ (List.mem_append_right _ (List.mem_append_left _ h)))))))))))))))))))))))))))
theorem kbs_18 : ∀ w ∈ wsL_law0_r18, w ∈ wsL_law := fun _ h => List.mem_append_left _ (List.mem_append_left _ (List.mem_append_left _ (List.mem_append_left _ (List.mem_append_left _ (List.mem_append_left _ (List.mem_append_left _ (List.mem_append_left _ (List.mem_append_left _ (List.mem_append_left _ (List.mem_append_left _ (List.mem_append_right _ (List.mem_append_right _ (List.mem_append_right _ (List.mem_append_right _ (List.mem_append_right _ (List.mem_append_right _ (List.mem_append_right _ (List.mem_append_right _ (List.mem_append_right _ (List.mem_append_right _ (List.mem_append_right _ (List.mem_append_right _ (List.mem_append_right _ (List.mem_append_right _ (List.mem_append_right _ (List.mem_append_right _ (List.mem_append_right _ (List.mem_append_left _ h))))))))))))))))))))))))))))
theorem kbs_19 : ∀ w ∈ wsL_law0_r19, w ∈ wsL_law := fun _ h => List.mem_append_left _ (List.mem_append_left _ (List.mem_append_left _ (List.mem_append_left _ (List.mem_append_left _ (List.mem_append_left _ (List.mem_append_left _ (List.mem_append_left _ (List.mem_append_left _ (List.mem_append_left _ (List.mem_append_left _ (List.mem_append_right _ (List.mem_append_right _ (List.mem_append_right _ (List.mem_append_right _ (List.mem_append_right _ (List.mem_append_right _ (List.mem_append_right _ (List.mem_append_right _ (List.mem_append_right _ (List.mem_append_right _ (List.mem_append_right _ (List.mem_append_right _ (List.mem_append_right _ (List.mem_append_right _ (List.mem_append_right _ (List.mem_append_right _ (List.mem_append_right _ (List.mem_append_right _ (List.mem_append_left _ h)))))))))))))))))))))))))))))
theorem kbs_20 : ∀ w ∈ wsL_law0_r20, w ∈ wsL_law := fun _ h => List.mem_append_left _ (List.mem_append_left _ (List.mem_append_left _ (List.mem_append_left _ (List.mem_append_left _ (List.mem_append_left _ (List.mem_append_left _ (List.mem_append_left _ (List.mem_append_left _ (List.mem_append_left _ (List.mem_append_left _ (List.mem_append_right _ (List.mem_append_right _ (List.mem_append_right _ (List.mem_append_right _ (List.mem_append_right _ (List.mem_append_right _ (List.mem_append_right _ (List.mem_append_right _ (List.mem_append_right _ (List.mem_append_right _ (List.mem_append_right _ (List.mem_append_right _ (List.mem_append_right _ (List.mem_append_right _ (List.mem_append_right _ (List.mem_append_right _ (List.mem_append_right _ (List.mem_append_right _ (List.mem_append_right _ (List.mem_append_left _ h))))))))))))))))))))))))))))))
theorem kbs_21 : ∀ w ∈ wsL_law0_r21, w ∈ wsL_law := fun _ h => List.mem_append_left _ (List.mem_append_left _ (List.mem_append_left _ (List.mem_append_left _ (List.mem_append_left _ (List.mem_append_left _ (List.mem_append_left _ (List.mem_append_left _ (List.mem_append_left _ (List.mem_append_left _ (List.mem_append_left _ (List.mem_append_right _ (List.mem_append_right _ (List.mem_append_right _ (List.mem_append_right _ (List.mem_append_right _ (List.mem_append_right _ (List.mem_append_right _ (List.mem_append_right _ (List.mem_append_right _ (List.mem_append_right _ (List.mem_append_right _ (List.mem_append_right _ (List.mem_append_right _ (List.mem_append_right _ (List.mem_append_right _ (List.mem_append_right _ (List.mem_append_right _ (List.mem_append_right _ (List.mem_append_right _ (List.mem_append_right _ (h)))))))))))))))))))))))))))))))
theorem kb_0 : Cond.classLink RL 8 RX5 ∈ wsL_law := kbs_1 _ (List.mem_of_getElem? (i := 0) (by decide +kernel))
theorem kb_1 : Cond.instantiable RX5 3 ∈ wsL_law := kbs_1 _ (List.mem_of_getElem? (i := 1) (by decide +kernel))
theorem kb_2 : Cond.initialized RX5 ∈ wsL_law := kbs_1 _ (List.mem_of_getElem? (i := 2) (by decide +kernel))
theorem kb_3 : Cond.arrayClass .int ∈ wsL_law := kbs_1 _ (List.mem_of_getElem? (i := 3) (by decide +kernel))
theorem kb_4 : Cond.methodLink RL 148 yX5_init ∈ wsL_law := kbs_1 _ (List.mem_of_getElem? (i := 4) (by decide +kernel))
theorem kb_5 : Cond.instanceMethod yX5_init ∈ wsL_law := kbs_1 _ (List.mem_of_getElem? (i := 5) (by decide +kernel))
theorem kb_6 : Cond.code yX5_init cX5_init 2 none ∈ wsL_law := kbs_1 _ (List.mem_of_getElem? (i := 6) (by decide +kernel))
theorem kb_7 : Cond.methodLink RX5 1 objectInit ∈ wsL_law := kbs_1 _ (List.mem_of_getElem? (i := 7) (by decide +kernel))
theorem kb_8 : Cond.instanceMethod objectInit ∈ wsL_law := kbs_1 _ (List.mem_of_getElem? (i := 8) (by decide +kernel))
theorem kb_9 : Cond.code objectInit ⟨#[0xb1]⟩ 1 none ∈ wsL_law := kbs_1 _ (List.mem_of_getElem? (i := 9) (by decide +kernel))
theorem kb_10 : Cond.classLink RX5 7 RJx4a65c ∈ wsL_law := kbs_1 _ (List.mem_of_getElem? (i := 10) (by decide +kernel))
theorem kb_11 : Cond.instantiable RJx4a65c 3 ∈ wsL_law := kbs_1 _ (List.mem_of_getElem? (i := 11) (by decide +kernel))
theorem kb_12 : Cond.initialized RJx4a65c ∈ wsL_law := kbs_1 _ (List.mem_of_getElem? (i := 12) (by decide +kernel))
theorem kb_13 : Cond.fieldLink RX5 10 "FieldStore" "central" "Ljava/util/ArrayList;" ∈ wsL_law := kbs_1 _ (List.mem_of_getElem? (i := 13) (by decide +kernel))
theorem kb_14 : Cond.classLink RX5 16 RX1 ∈ wsL_law := kbs_1 _ (List.mem_of_getElem? (i := 14) (by decide +kernel))
theorem kb_15 : Cond.fieldLink RX5 18 "FieldStore" "devices" "[LFieldStore$Device;" ∈ wsL_law := kbs_1 _ (List.mem_of_getElem? (i := 15) (by decide +kernel))
theorem kb_16 : Cond.fieldLink RX5 22 "FieldStore" "actsDone" "I" ∈ wsL_law := kbs_1 _ (List.mem_of_getElem? (i := 16) (by decide +kernel))
theorem kb_17 : Cond.instantiable RX1 9 ∈ wsL_law := kbs_1 _ (List.mem_of_getElem? (i := 17) (by decide +kernel))
theorem kb_18 : Cond.initialized RX1 ∈ wsL_law := kbs_1 _ (List.mem_of_getElem? (i := 18) (by decide +kernel))
theorem kb_19 : Cond.methodLink RX5 9 yJx4a65c_init_da8c8 ∈ wsL_law := kbs_1 _ (List.mem_of_getElem? (i := 19) (by decide +kernel))
theorem kb_20 : Cond.instanceMethod yJx4a65c_init_da8c8 ∈ wsL_law := kbs_1 _ (List.mem_of_getElem? (i := 20) (by decide +kernel))
theorem kb_21 : Cond.code yJx4a65c_init_da8c8 cJx4a65c_init_da8c8 1 none ∈ wsL_law := kbs_1 _ (List.mem_of_getElem? (i := 21) (by decide +kernel))
theorem kb_22 : Cond.fieldLink RJx4a65c 39 "java/util/ArrayList" "DEFAULTCAPACITY_EMPTY_ELEMENTDATA" "[Ljava/lang/Object;" ∈ wsL_law := kbs_1 _ (List.mem_of_getElem? (i := 22) (by decide +kernel))
theorem kb_23 : Cond.fieldLink RJx4a65c 9 "java/util/ArrayList" "elementData" "[Ljava/lang/Object;" ∈ wsL_law := kbs_1 _ (List.mem_of_getElem? (i := 23) (by decide +kernel))
theorem kb_24 : Cond.methodLink RJx4a65c 1 yJxc12de_init_da8c8 ∈ wsL_law := kbs_2 _ (List.mem_of_getElem? (i := 0) (by decide +kernel))
theorem kb_25 : Cond.instanceMethod yJxc12de_init_da8c8 ∈ wsL_law := kbs_2 _ (List.mem_of_getElem? (i := 1) (by decide +kernel))
theorem kb_26 : Cond.initialized RJxc12de ∈ wsL_law := kbs_2 _ (List.mem_of_getElem? (i := 2) (by decide +kernel))
theorem kb_27 : Cond.code yJxc12de_init_da8c8 cJxc12de_init_da8c8 1 none ∈ wsL_law := kbs_2 _ (List.mem_of_getElem? (i := 3) (by decide +kernel))
theorem kb_28 : Cond.fieldLink RJxc12de 7 "java/util/AbstractList" "modCount" "I" ∈ wsL_law := kbs_2 _ (List.mem_of_getElem? (i := 4) (by decide +kernel))
theorem kb_29 : Cond.methodLink RJxc12de 1 yJxa1e45_init_da8c8 ∈ wsL_law := kbs_2 _ (List.mem_of_getElem? (i := 5) (by decide +kernel))
theorem kb_30 : Cond.instanceMethod yJxa1e45_init_da8c8 ∈ wsL_law := kbs_2 _ (List.mem_of_getElem? (i := 6) (by decide +kernel))
theorem kb_31 : Cond.initialized RJxa1e45 ∈ wsL_law := kbs_2 _ (List.mem_of_getElem? (i := 7) (by decide +kernel))
theorem kb_32 : Cond.code yJxa1e45_init_da8c8 cJxa1e45_init_da8c8 1 none ∈ wsL_law := kbs_2 _ (List.mem_of_getElem? (i := 8) (by decide +kernel))
theorem kb_33 : Cond.methodLink RJxa1e45 1 objectInit ∈ wsL_law := kbs_2 _ (List.mem_of_getElem? (i := 9) (by decide +kernel))
theorem kb_34 : Cond.instanceMethod yX1_init ∈ wsL_law := kbs_2 _ (List.mem_of_getElem? (i := 10) (by decide +kernel))
theorem kb_35 : Cond.code yX1_init cX1_init 1 none ∈ wsL_law := kbs_2 _ (List.mem_of_getElem? (i := 11) (by decide +kernel))
theorem kb_36 : Cond.methodLink RX1 3 objectInit ∈ wsL_law := kbs_2 _ (List.mem_of_getElem? (i := 12) (by decide +kernel))
theorem kb_37 : Cond.fieldLink RX1 9 "FieldStore$Device" "room" "I" ∈ wsL_law := kbs_2 _ (List.mem_of_getElem? (i := 13) (by decide +kernel))
theorem kb_38 : Cond.classLink RX1 15 RX2 ∈ wsL_law := kbs_2 _ (List.mem_of_getElem? (i := 14) (by decide +kernel))
theorem kb_39 : Cond.fieldLink RX1 17 "FieldStore$Device" "copies" "[LFieldStore$Fields;" ∈ wsL_law := kbs_2 _ (List.mem_of_getElem? (i := 15) (by decide +kernel))
theorem kb_40 : Cond.arrayClass .boolean ∈ wsL_law := kbs_2 _ (List.mem_of_getElem? (i := 16) (by decide +kernel))
theorem kb_41 : Cond.fieldLink RX1 21 "FieldStore$Device" "copied" "[Z" ∈ wsL_law := kbs_2 _ (List.mem_of_getElem? (i := 17) (by decide +kernel))
theorem kb_42 : Cond.fieldLink RX1 25 "FieldStore$Device" "copyCount" "I" ∈ wsL_law := kbs_2 _ (List.mem_of_getElem? (i := 18) (by decide +kernel))
theorem kb_43 : Cond.classLink RX1 28 RJx4a65c ∈ wsL_law := kbs_2 _ (List.mem_of_getElem? (i := 19) (by decide +kernel))
theorem kb_44 : Cond.fieldLink RX1 31 "FieldStore$Device" "madeJobs" "Ljava/util/ArrayList;" ∈ wsL_law := kbs_2 _ (List.mem_of_getElem? (i := 20) (by decide +kernel))
theorem kb_45 : Cond.fieldLink RX1 35 "FieldStore$Device" "unnumbered" "I" ∈ wsL_law := kbs_2 _ (List.mem_of_getElem? (i := 21) (by decide +kernel))
theorem kb_46 : Cond.fieldLink RX1 38 "FieldStore$Device" "acts" "Ljava/util/ArrayList;" ∈ wsL_law := kbs_2 _ (List.mem_of_getElem? (i := 22) (by decide +kernel))
theorem kb_47 : Cond.fieldLink RX1 41 "FieldStore$Device" "nextAct" "I" ∈ wsL_law := kbs_2 _ (List.mem_of_getElem? (i := 23) (by decide +kernel))
theorem kb_48 : Cond.fieldLink RX1 44 "FieldStore$Device" "refused" "Ljava/util/ArrayList;" ∈ wsL_law := kbs_3 _ (List.mem_of_getElem? (i := 0) (by decide +kernel))
theorem kb_49 : Cond.methodLink RX1 30 yJx4a65c_init_da8c8 ∈ wsL_law := kbs_3 _ (List.mem_of_getElem? (i := 1) (by decide +kernel))
theorem kb_50 : Cond.methodLink RL 149 yL_drawn ∈ wsL_law := kbs_3 _ (List.mem_of_getElem? (i := 2) (by decide +kernel))
theorem kb_51 : Cond.static yL_drawn ∈ wsL_law := kbs_3 _ (List.mem_of_getElem? (i := 3) (by decide +kernel))
theorem kb_52 : Cond.initialized RL ∈ wsL_law := kbs_3 _ (List.mem_of_getElem? (i := 4) (by decide +kernel))
theorem kb_53 : Cond.code yL_drawn cL_drawn 2 (some .int) ∈ wsL_law := kbs_3 _ (List.mem_of_getElem? (i := 5) (by decide +kernel))
theorem kb_54 : Cond.constant RL 83 (15524771) ∈ wsL_law := kbs_3 _ (List.mem_of_getElem? (i := 6) (by decide +kernel))
theorem kb_55 : Cond.constant RL 84 (2147483647) ∈ wsL_law := kbs_3 _ (List.mem_of_getElem? (i := 7) (by decide +kernel))
theorem kb_56 : Cond.methodLink RL 153 yL_act ∈ wsL_law := kbs_3 _ (List.mem_of_getElem? (i := 8) (by decide +kernel))
theorem kb_57 : Cond.static yL_act ∈ wsL_law := kbs_3 _ (List.mem_of_getElem? (i := 9) (by decide +kernel))
theorem kb_58 : Cond.code yL_act cL_act 13 (some .int) ∈ wsL_law := kbs_3 _ (List.mem_of_getElem? (i := 10) rfl)
theorem kb_59 : Cond.methodLink RL 85 yX5_jobs ∈ wsL_law := kbs_3 _ (List.mem_of_getElem? (i := 11) (by decide +kernel))
theorem kb_60 : Cond.instanceMethod yX5_jobs ∈ wsL_law := kbs_3 _ (List.mem_of_getElem? (i := 12) (by decide +kernel))
theorem kb_61 : Cond.selects RX5 yX5_jobs yX5_jobs ∈ wsL_law := kbs_3 _ (List.mem_of_getElem? (i := 13) (by decide +kernel))
theorem kb_62 : Cond.code yX5_jobs cX5_jobs 1 (some .int) ∈ wsL_law := kbs_3 _ (List.mem_of_getElem? (i := 14) (by decide +kernel))
theorem kb_63 : Cond.methodLink RX5 31 yJx4a65c_size_8abf5 ∈ wsL_law := kbs_3 _ (List.mem_of_getElem? (i := 15) (by decide +kernel))
theorem kb_64 : Cond.instanceMethod yJx4a65c_size_8abf5 ∈ wsL_law := kbs_3 _ (List.mem_of_getElem? (i := 16) (by decide +kernel))
theorem kb_65 : Cond.selects RJx4a65c yJx4a65c_size_8abf5 yJx4a65c_size_8abf5 ∈ wsL_law := kbs_3 _ (List.mem_of_getElem? (i := 17) (by decide +kernel))
theorem kb_66 : Cond.code yJx4a65c_size_8abf5 cJx4a65c_size_8abf5 1 (some .int) ∈ wsL_law := kbs_3 _ (List.mem_of_getElem? (i := 18) (by decide +kernel))
theorem kb_67 : Cond.fieldLink RJx4a65c 48 "java/util/ArrayList" "size" "I" ∈ wsL_law := kbs_3 _ (List.mem_of_getElem? (i := 19) (by decide +kernel))
theorem kb_68 : Cond.methodLink RL 89 yL_adds ∈ wsL_law := kbs_3 _ (List.mem_of_getElem? (i := 20) (by decide +kernel))
theorem kb_69 : Cond.static yL_adds ∈ wsL_law := kbs_3 _ (List.mem_of_getElem? (i := 21) (by decide +kernel))
theorem kb_70 : Cond.codeWith yL_adds cL_adds 4 (some .int) [(0, 6, 7, 13), (0, 6, 11, 16)] ∈ wsL_law := kbs_3 _ (List.mem_of_getElem? (i := 22) (by decide +kernel))
theorem kb_71 : Cond.classLink RL 13 "java/lang/IllegalArgumentException" ∈ wsL_law := kbs_3 _ (List.mem_of_getElem? (i := 23) (by decide +kernel))
theorem kb_72 : Cond.classLink RL 16 "java/lang/IllegalStateException" ∈ wsL_law := kbs_4 _ (List.mem_of_getElem? (i := 0) (by decide +kernel))
theorem kb_73 : Cond.constant RL 15 (-2000000002) ∈ wsL_law := kbs_4 _ (List.mem_of_getElem? (i := 1) (by decide +kernel))
theorem kb_74 : Cond.constant RL 18 (-2000000003) ∈ wsL_law := kbs_4 _ (List.mem_of_getElem? (i := 2) (by decide +kernel))
theorem kb_75 : Cond.methodLink RL 7 yX5_add ∈ wsL_law := kbs_4 _ (List.mem_of_getElem? (i := 3) (by decide +kernel))
theorem kb_76 : Cond.instanceMethod yX5_add ∈ wsL_law := kbs_4 _ (List.mem_of_getElem? (i := 4) (by decide +kernel))
theorem kb_77 : Cond.selects RX5 yX5_add yX5_add ∈ wsL_law := kbs_4 _ (List.mem_of_getElem? (i := 5) (by decide +kernel))
theorem kb_78 : Cond.code yX5_add cX5_add 3 (some .int) ∈ wsL_law := kbs_4 _ (List.mem_of_getElem? (i := 6) (by decide +kernel))
theorem kb_79 : Cond.classLink RX5 35 "java/lang/IllegalStateException" ∈ wsL_law := kbs_4 _ (List.mem_of_getElem? (i := 7) (by decide +kernel))
theorem kb_80 : Cond.initialized "java/lang/IllegalStateException" ∈ wsL_law := kbs_4 _ (List.mem_of_getElem? (i := 8) (by decide +kernel))
theorem kb_81 : Cond.classLink RX5 42 RX3 ∈ wsL_law := kbs_4 _ (List.mem_of_getElem? (i := 9) (by decide +kernel))
theorem kb_82 : Cond.instantiable RX3 3 ∈ wsL_law := kbs_4 _ (List.mem_of_getElem? (i := 10) (by decide +kernel))
theorem kb_83 : Cond.initialized RX3 ∈ wsL_law := kbs_4 _ (List.mem_of_getElem? (i := 11) (by decide +kernel))
theorem kb_84 : Cond.methodLink RX5 27 yX5_checkRange ∈ wsL_law := kbs_4 _ (List.mem_of_getElem? (i := 12) (by decide +kernel))
theorem kb_85 : Cond.static yX5_checkRange ∈ wsL_law := kbs_4 _ (List.mem_of_getElem? (i := 13) (by decide +kernel))
theorem kb_86 : Cond.code yX5_checkRange cX5_checkRange 3 none ∈ wsL_law := kbs_4 _ (List.mem_of_getElem? (i := 14) (by decide +kernel))
theorem kb_87 : Cond.classLink RX5 127 "java/lang/IllegalArgumentException" ∈ wsL_law := kbs_4 _ (List.mem_of_getElem? (i := 15) (by decide +kernel))
theorem kb_88 : Cond.initialized "java/lang/IllegalArgumentException" ∈ wsL_law := kbs_4 _ (List.mem_of_getElem? (i := 16) (by decide +kernel))
theorem kb_89 : Cond.methodLink RX5 44 yX3_init ∈ wsL_law := kbs_4 _ (List.mem_of_getElem? (i := 17) (by decide +kernel))
theorem kb_90 : Cond.instanceMethod yX3_init ∈ wsL_law := kbs_4 _ (List.mem_of_getElem? (i := 18) (by decide +kernel))
theorem kb_91 : Cond.code yX3_init cX3_init 3 none ∈ wsL_law := kbs_4 _ (List.mem_of_getElem? (i := 19) (by decide +kernel))
theorem kb_92 : Cond.methodLink RX3 1 objectInit ∈ wsL_law := kbs_4 _ (List.mem_of_getElem? (i := 20) (by decide +kernel))
theorem kb_93 : Cond.classLink RX3 7 RX2 ∈ wsL_law := kbs_4 _ (List.mem_of_getElem? (i := 21) (by decide +kernel))
theorem kb_94 : Cond.instantiable RX2 4 ∈ wsL_law := kbs_4 _ (List.mem_of_getElem? (i := 22) (by decide +kernel))
theorem kb_95 : Cond.initialized RX2 ∈ wsL_law := kbs_4 _ (List.mem_of_getElem? (i := 23) (by decide +kernel))
theorem kb_96 : Cond.fieldLink RX3 10 "FieldStore$Job" "fields" "LFieldStore$Fields;" ∈ wsL_law := kbs_5 _ (List.mem_of_getElem? (i := 0) (by decide +kernel))
theorem kb_97 : Cond.fieldLink RX3 16 "FieldStore$Job" "crew" "I" ∈ wsL_law := kbs_5 _ (List.mem_of_getElem? (i := 1) (by decide +kernel))
theorem kb_98 : Cond.fieldLink RX3 20 "FieldStore$Job" "site" "I" ∈ wsL_law := kbs_5 _ (List.mem_of_getElem? (i := 2) (by decide +kernel))
theorem kb_99 : Cond.instanceMethod yX2_init ∈ wsL_law := kbs_5 _ (List.mem_of_getElem? (i := 3) (by decide +kernel))
theorem kb_100 : Cond.code yX2_init cX2_init 1 none ∈ wsL_law := kbs_5 _ (List.mem_of_getElem? (i := 4) (by decide +kernel))
theorem kb_101 : Cond.methodLink RX2 3 objectInit ∈ wsL_law := kbs_5 _ (List.mem_of_getElem? (i := 5) (by decide +kernel))
theorem kb_102 : Cond.fieldLink RX2 9 "FieldStore$Fields" "state" "I" ∈ wsL_law := kbs_5 _ (List.mem_of_getElem? (i := 6) (by decide +kernel))
theorem kb_103 : Cond.fieldLink RX2 15 "FieldStore$Fields" "note" "I" ∈ wsL_law := kbs_5 _ (List.mem_of_getElem? (i := 7) (by decide +kernel))
theorem kb_104 : Cond.fieldLink RX2 18 "FieldStore$Fields" "stateVersion" "I" ∈ wsL_law := kbs_5 _ (List.mem_of_getElem? (i := 8) (by decide +kernel))
theorem kb_105 : Cond.fieldLink RX2 21 "FieldStore$Fields" "noteVersion" "I" ∈ wsL_law := kbs_5 _ (List.mem_of_getElem? (i := 9) (by decide +kernel))
theorem kb_106 : Cond.methodLink RX5 47 yJx4a65c_add_9ea2d ∈ wsL_law := kbs_5 _ (List.mem_of_getElem? (i := 10) (by decide +kernel))
theorem kb_107 : Cond.instanceMethod yJx4a65c_add_9ea2d ∈ wsL_law := kbs_5 _ (List.mem_of_getElem? (i := 11) (by decide +kernel))
theorem kb_108 : Cond.selects RJx4a65c yJx4a65c_add_9ea2d yJx4a65c_add_9ea2d ∈ wsL_law := kbs_5 _ (List.mem_of_getElem? (i := 12) (by decide +kernel))
theorem kb_109 : Cond.code yJx4a65c_add_9ea2d cJx4a65c_add_9ea2d 2 (some .boolean) ∈ wsL_law := kbs_5 _ (List.mem_of_getElem? (i := 13) (by decide +kernel))
theorem kb_110 : Cond.fieldLink RJx4a65c 63 "java/util/ArrayList" "modCount" "I" ∈ wsL_law := kbs_5 _ (List.mem_of_getElem? (i := 14) (by decide +kernel))
theorem kb_111 : Cond.sameField "java/util/ArrayList" "java/util/AbstractList" "modCount" "I" ∈ wsL_law := kbs_5 _ (List.mem_of_getElem? (i := 15) (by decide +kernel))
theorem kb_112 : Cond.methodLink RJx4a65c 131 yJx4a65c_add_72be8 ∈ wsL_law := kbs_5 _ (List.mem_of_getElem? (i := 16) (by decide +kernel))
theorem kb_113 : Cond.instanceMethod yJx4a65c_add_72be8 ∈ wsL_law := kbs_5 _ (List.mem_of_getElem? (i := 17) (by decide +kernel))
theorem kb_114 : Cond.selects RJx4a65c yJx4a65c_add_72be8 yJx4a65c_add_72be8 ∈ wsL_law := kbs_5 _ (List.mem_of_getElem? (i := 18) (by decide +kernel))
theorem kb_115 : Cond.code yJx4a65c_add_72be8 cJx4a65c_add_72be8 4 none ∈ wsL_law := kbs_5 _ (List.mem_of_getElem? (i := 19) (by decide +kernel))
theorem kb_116 : Cond.methodLink RJx4a65c 129 yJx4a65c_grow_d5877 ∈ wsL_law := kbs_5 _ (List.mem_of_getElem? (i := 20) (by decide +kernel))
theorem kb_117 : Cond.instanceMethod yJx4a65c_grow_d5877 ∈ wsL_law := kbs_5 _ (List.mem_of_getElem? (i := 21) (by decide +kernel))
theorem kb_118 : Cond.selects RJx4a65c yJx4a65c_grow_d5877 yJx4a65c_grow_d5877 ∈ wsL_law := kbs_5 _ (List.mem_of_getElem? (i := 22) (by decide +kernel))
theorem kb_119 : Cond.code yJx4a65c_grow_d5877 cJx4a65c_grow_d5877 1 (some (.array (.object "java/lang/Object"))) ∈ wsL_law := kbs_5 _ (List.mem_of_getElem? (i := 23) (by decide +kernel))
theorem kb_120 : Cond.methodLink RJx4a65c 69 yJx4a65c_grow_92f84 ∈ wsL_law := kbs_6 _ (List.mem_of_getElem? (i := 0) (by decide +kernel))
theorem kb_121 : Cond.instanceMethod yJx4a65c_grow_92f84 ∈ wsL_law := kbs_6 _ (List.mem_of_getElem? (i := 1) (by decide +kernel))
theorem kb_122 : Cond.selects RJx4a65c yJx4a65c_grow_92f84 yJx4a65c_grow_92f84 ∈ wsL_law := kbs_6 _ (List.mem_of_getElem? (i := 2) (by decide +kernel))
theorem kb_123 : Cond.code yJx4a65c_grow_92f84 cJx4a65c_grow_92f84 4 (some (.array (.object "java/lang/Object"))) ∈ wsL_law := kbs_6 _ (List.mem_of_getElem? (i := 3) (by decide +kernel))
theorem kb_124 : Cond.methodLink RJx4a65c 79 Lib.Math.max.name ∈ wsL_law := kbs_6 _ (List.mem_of_getElem? (i := 4) (by decide +kernel))
theorem kb_125 : Cond.static Lib.Math.max.name ∈ wsL_law := kbs_6 _ (List.mem_of_getElem? (i := 5) (by decide +kernel))
theorem kb_126 : Cond.initialized "java/lang/Math" ∈ wsL_law := kbs_6 _ (List.mem_of_getElem? (i := 6) (by decide +kernel))
theorem kb_127 : Cond.code Lib.Math.max.name Lib.Math.max.code 2 (some .int) ∈ wsL_law := kbs_6 _ (List.mem_of_getElem? (i := 7) (by decide +kernel))
theorem kb_128 : Cond.classLink RJx4a65c 7 "java/lang/Object" ∈ wsL_law := kbs_6 _ (List.mem_of_getElem? (i := 8) (by decide +kernel))
theorem kb_129 : Cond.methodLink RJx4a65c 73 yJ8_newLength_cabcc ∈ wsL_law := kbs_6 _ (List.mem_of_getElem? (i := 9) (by decide +kernel))
theorem kb_130 : Cond.static yJ8_newLength_cabcc ∈ wsL_law := kbs_6 _ (List.mem_of_getElem? (i := 10) (by decide +kernel))
theorem kb_131 : Cond.initialized RJ8 ∈ wsL_law := kbs_6 _ (List.mem_of_getElem? (i := 11) (by decide +kernel))
theorem kb_132 : Cond.code yJ8_newLength_cabcc cJ8_newLength_cabcc 4 (some .int) ∈ wsL_law := kbs_6 _ (List.mem_of_getElem? (i := 12) (by decide +kernel))
theorem kb_133 : Cond.methodLink RJ8 194 Lib.Math.max.name ∈ wsL_law := kbs_6 _ (List.mem_of_getElem? (i := 13) (by decide +kernel))
theorem kb_134 : Cond.constant RJ8 200 (2147483639) ∈ wsL_law := kbs_6 _ (List.mem_of_getElem? (i := 14) (by decide +kernel))
theorem kb_135 : Cond.methodLink RJ8 201 yJ8_hugeLength_7cf53 ∈ wsL_law := kbs_6 _ (List.mem_of_getElem? (i := 15) (by decide +kernel))
theorem kb_136 : Cond.static yJ8_hugeLength_7cf53 ∈ wsL_law := kbs_6 _ (List.mem_of_getElem? (i := 16) (by decide +kernel))
theorem kb_137 : Cond.code yJ8_hugeLength_7cf53 cJ8_hugeLength_7cf53 3 (some .int) ∈ wsL_law := kbs_6 _ (List.mem_of_getElem? (i := 17) (by decide +kernel))
theorem kb_138 : Cond.methodLink RJx4a65c 66 yJ7_copyOf_1904c ∈ wsL_law := kbs_6 _ (List.mem_of_getElem? (i := 18) (by decide +kernel))
theorem kb_139 : Cond.static yJ7_copyOf_1904c ∈ wsL_law := kbs_6 _ (List.mem_of_getElem? (i := 19) (by decide +kernel))
theorem kb_140 : Cond.initialized RJ7 ∈ wsL_law := kbs_6 _ (List.mem_of_getElem? (i := 20) (by decide +kernel))
theorem kb_141 : Cond.code yJ7_copyOf_1904c cJ7_copyOf_1904c 2 (some (.array (.object "java/lang/Object"))) ∈ wsL_law := kbs_6 _ (List.mem_of_getElem? (i := 21) (by decide +kernel))
theorem kb_142 : Cond.methodLink RJ7 86 ⟨"java/lang/Object", "getClass", "()Ljava/lang/Class;"⟩ ∈ wsL_law := kbs_6 _ (List.mem_of_getElem? (i := 22) (by decide +kernel))
theorem kb_143 : Cond.selects "[Ljava/lang/Object;" ⟨"java/lang/Object", "getClass", "()Ljava/lang/Class;"⟩ ⟨"java/lang/Object", "getClass", "()Ljava/lang/Class;"⟩ ∈ wsL_law := kbs_6 _ (List.mem_of_getElem? (i := 23) (by decide +kernel))
theorem kb_144 : Cond.instanceMethod ⟨"java/lang/Object", "getClass", "()Ljava/lang/Class;"⟩ ∈ wsL_law := kbs_7 _ (List.mem_of_getElem? (i := 0) (by decide +kernel))
theorem kb_145 : Cond.native ⟨"java/lang/Object", "getClass", "()Ljava/lang/Class;"⟩ ∈ wsL_law := kbs_7 _ (List.mem_of_getElem? (i := 1) (by decide +kernel))
theorem kb_146 : Cond.methodLink RJ7 300 yJ7_copyOf_6403c ∈ wsL_law := kbs_7 _ (List.mem_of_getElem? (i := 2) (by decide +kernel))
theorem kb_147 : Cond.static yJ7_copyOf_6403c ∈ wsL_law := kbs_7 _ (List.mem_of_getElem? (i := 3) (by decide +kernel))
theorem kb_148 : Cond.code yJ7_copyOf_6403c cJ7_copyOf_6403c 4 (some (.array (.object "java/lang/Object"))) ∈ wsL_law := kbs_7 _ (List.mem_of_getElem? (i := 4) (by decide +kernel))
theorem kb_149 : Cond.classLink RJ7 110 "[Ljava/lang/Object;" ∈ wsL_law := kbs_7 _ (List.mem_of_getElem? (i := 5) (by decide +kernel))
theorem kb_150 : Cond.classLink RJ7 2 "java/lang/Object" ∈ wsL_law := kbs_7 _ (List.mem_of_getElem? (i := 6) (by decide +kernel))
theorem kb_151 : Cond.methodLink RJ7 304 Lib.Math.min.name ∈ wsL_law := kbs_7 _ (List.mem_of_getElem? (i := 7) (by decide +kernel))
theorem kb_152 : Cond.static Lib.Math.min.name ∈ wsL_law := kbs_7 _ (List.mem_of_getElem? (i := 8) (by decide +kernel))
theorem kb_153 : Cond.code Lib.Math.min.name Lib.Math.min.code 2 (some .int) ∈ wsL_law := kbs_7 _ (List.mem_of_getElem? (i := 9) (by decide +kernel))
theorem kb_154 : Cond.methodLink RJ7 150 arraycopyName ∈ wsL_law := kbs_7 _ (List.mem_of_getElem? (i := 10) (by decide +kernel))
theorem kb_155 : Cond.native arraycopyName ∈ wsL_law := kbs_7 _ (List.mem_of_getElem? (i := 11) (by decide +kernel))
theorem kb_156 : Cond.static arraycopyName ∈ wsL_law := kbs_7 _ (List.mem_of_getElem? (i := 12) (by decide +kernel))
theorem kb_157 : Cond.initialized "java/lang/System" ∈ wsL_law := kbs_7 _ (List.mem_of_getElem? (i := 13) (by decide +kernel))
theorem kb_158 : Cond.methodLink RL 95 yL_gives ∈ wsL_law := kbs_7 _ (List.mem_of_getElem? (i := 14) (by decide +kernel))
theorem kb_159 : Cond.static yL_gives ∈ wsL_law := kbs_7 _ (List.mem_of_getElem? (i := 15) (by decide +kernel))
theorem kb_160 : Cond.codeWith yL_gives cL_gives 4 (some .int) [(0, 6, 7, 22), (0, 6, 11, 13)] ∈ wsL_law := kbs_7 _ (List.mem_of_getElem? (i := 16) (by decide +kernel))
theorem kb_161 : Cond.classLink RL 22 "java/lang/IndexOutOfBoundsException" ∈ wsL_law := kbs_7 _ (List.mem_of_getElem? (i := 17) (by decide +kernel))
theorem kb_162 : Cond.constant RL 24 (-2000000001) ∈ wsL_law := kbs_7 _ (List.mem_of_getElem? (i := 18) (by decide +kernel))
theorem kb_163 : Cond.methodLink RL 19 yX5_give ∈ wsL_law := kbs_7 _ (List.mem_of_getElem? (i := 19) (by decide +kernel))
theorem kb_164 : Cond.instanceMethod yX5_give ∈ wsL_law := kbs_7 _ (List.mem_of_getElem? (i := 20) (by decide +kernel))
theorem kb_165 : Cond.selects RX5 yX5_give yX5_give ∈ wsL_law := kbs_7 _ (List.mem_of_getElem? (i := 21) (by decide +kernel))
theorem kb_166 : Cond.code yX5_give cX5_give 5 (some .int) ∈ wsL_law := kbs_7 _ (List.mem_of_getElem? (i := 22) (by decide +kernel))
theorem kb_167 : Cond.fieldLink RX5 55 "FieldStore$Job" "crew" "I" ∈ wsL_law := kbs_7 _ (List.mem_of_getElem? (i := 23) (by decide +kernel))
theorem kb_168 : Cond.methodLink RX5 51 yX5_jobAt ∈ wsL_law := kbs_8 _ (List.mem_of_getElem? (i := 0) (by decide +kernel))
theorem kb_169 : Cond.instanceMethod yX5_jobAt ∈ wsL_law := kbs_8 _ (List.mem_of_getElem? (i := 1) (by decide +kernel))
theorem kb_170 : Cond.selects RX5 yX5_jobAt yX5_jobAt ∈ wsL_law := kbs_8 _ (List.mem_of_getElem? (i := 2) (by decide +kernel))
theorem kb_171 : Cond.code yX5_jobAt cX5_jobAt 2 (some (.object "FieldStore$Job")) ∈ wsL_law := kbs_8 _ (List.mem_of_getElem? (i := 3) (by decide +kernel))
theorem kb_172 : Cond.classLink RX5 204 "java/lang/IndexOutOfBoundsException" ∈ wsL_law := kbs_8 _ (List.mem_of_getElem? (i := 4) (by decide +kernel))
theorem kb_173 : Cond.initialized "java/lang/IndexOutOfBoundsException" ∈ wsL_law := kbs_8 _ (List.mem_of_getElem? (i := 5) (by decide +kernel))
theorem kb_174 : Cond.classLink RX5 42 "FieldStore$Job" ∈ wsL_law := kbs_8 _ (List.mem_of_getElem? (i := 6) (by decide +kernel))
theorem kb_175 : Cond.methodLink RX5 164 yJx4a65c_get_915e3 ∈ wsL_law := kbs_8 _ (List.mem_of_getElem? (i := 7) (by decide +kernel))
theorem kb_176 : Cond.instanceMethod yJx4a65c_get_915e3 ∈ wsL_law := kbs_8 _ (List.mem_of_getElem? (i := 8) (by decide +kernel))
theorem kb_177 : Cond.selects RJx4a65c yJx4a65c_get_915e3 yJx4a65c_get_915e3 ∈ wsL_law := kbs_8 _ (List.mem_of_getElem? (i := 9) (by decide +kernel))
theorem kb_178 : Cond.code yJx4a65c_get_915e3 cJx4a65c_get_915e3 2 (some (.object "java/lang/Object")) ∈ wsL_law := kbs_8 _ (List.mem_of_getElem? (i := 10) (by decide +kernel))
theorem kb_179 : Cond.methodLink RJx4a65c 118 yJ15_checkIndex_7cf53 ∈ wsL_law := kbs_8 _ (List.mem_of_getElem? (i := 11) (by decide +kernel))
theorem kb_180 : Cond.static yJ15_checkIndex_7cf53 ∈ wsL_law := kbs_8 _ (List.mem_of_getElem? (i := 12) (by decide +kernel))
theorem kb_181 : Cond.initialized RJ15 ∈ wsL_law := kbs_8 _ (List.mem_of_getElem? (i := 13) (by decide +kernel))
theorem kb_182 : Cond.code yJ15_checkIndex_7cf53 cJ15_checkIndex_7cf53 2 (some .int) ∈ wsL_law := kbs_8 _ (List.mem_of_getElem? (i := 14) (by decide +kernel))
theorem kb_183 : Cond.methodLink RJ15 105 yJ3_checkIndex_8e157 ∈ wsL_law := kbs_8 _ (List.mem_of_getElem? (i := 15) (by decide +kernel))
theorem kb_184 : Cond.static yJ3_checkIndex_8e157 ∈ wsL_law := kbs_8 _ (List.mem_of_getElem? (i := 16) (by decide +kernel))
theorem kb_185 : Cond.initialized RJ3 ∈ wsL_law := kbs_8 _ (List.mem_of_getElem? (i := 17) (by decide +kernel))
theorem kb_186 : Cond.code yJ3_checkIndex_8e157 cJ3_checkIndex_8e157 3 (some .int) ∈ wsL_law := kbs_8 _ (List.mem_of_getElem? (i := 18) (by decide +kernel))
theorem kb_187 : Cond.methodLink RJx4a65c 123 yJx4a65c_elementData_915e3 ∈ wsL_law := kbs_8 _ (List.mem_of_getElem? (i := 19) (by decide +kernel))
theorem kb_188 : Cond.instanceMethod yJx4a65c_elementData_915e3 ∈ wsL_law := kbs_8 _ (List.mem_of_getElem? (i := 20) (by decide +kernel))
theorem kb_189 : Cond.selects RJx4a65c yJx4a65c_elementData_915e3 yJx4a65c_elementData_915e3 ∈ wsL_law := kbs_8 _ (List.mem_of_getElem? (i := 21) (by decide +kernel))
theorem kb_190 : Cond.code yJx4a65c_elementData_915e3 cJx4a65c_elementData_915e3 2 (some (.object "java/lang/Object")) ∈ wsL_law := kbs_8 _ (List.mem_of_getElem? (i := 22) (by decide +kernel))
theorem kb_191 : Cond.methodLink RL 98 yL_sets ∈ wsL_law := kbs_8 _ (List.mem_of_getElem? (i := 23) (by decide +kernel))
theorem kb_192 : Cond.static yL_sets ∈ wsL_law := kbs_9 _ (List.mem_of_getElem? (i := 0) (by decide +kernel))
theorem kb_193 : Cond.codeWith yL_sets cL_sets 5 (some .int) [(0, 7, 8, 22), (0, 7, 13, 13)] ∈ wsL_law := kbs_9 _ (List.mem_of_getElem? (i := 1) (by decide +kernel))
theorem kb_194 : Cond.methodLink RL 25 yX5_set ∈ wsL_law := kbs_9 _ (List.mem_of_getElem? (i := 2) (by decide +kernel))
theorem kb_195 : Cond.instanceMethod yX5_set ∈ wsL_law := kbs_9 _ (List.mem_of_getElem? (i := 3) (by decide +kernel))
theorem kb_196 : Cond.selects RX5 yX5_set yX5_set ∈ wsL_law := kbs_9 _ (List.mem_of_getElem? (i := 4) (by decide +kernel))
theorem kb_197 : Cond.code yX5_set cX5_set 5 (some .int) ∈ wsL_law := kbs_9 _ (List.mem_of_getElem? (i := 5) (by decide +kernel))
theorem kb_198 : Cond.fieldLink RX5 58 "FieldStore$Job" "fields" "LFieldStore$Fields;" ∈ wsL_law := kbs_9 _ (List.mem_of_getElem? (i := 6) (by decide +kernel))
theorem kb_199 : Cond.methodLink RX5 62 yX5_checkValue ∈ wsL_law := kbs_9 _ (List.mem_of_getElem? (i := 7) (by decide +kernel))
theorem kb_200 : Cond.static yX5_checkValue ∈ wsL_law := kbs_9 _ (List.mem_of_getElem? (i := 8) (by decide +kernel))
theorem kb_201 : Cond.code yX5_checkValue cX5_checkValue 2 none ∈ wsL_law := kbs_9 _ (List.mem_of_getElem? (i := 9) (by decide +kernel))
theorem kb_202 : Cond.methodLink RX5 77 yX5_checkField ∈ wsL_law := kbs_9 _ (List.mem_of_getElem? (i := 10) (by decide +kernel))
theorem kb_203 : Cond.static yX5_checkField ∈ wsL_law := kbs_9 _ (List.mem_of_getElem? (i := 11) (by decide +kernel))
theorem kb_204 : Cond.code yX5_checkField cX5_checkField 1 none ∈ wsL_law := kbs_9 _ (List.mem_of_getElem? (i := 12) (by decide +kernel))
theorem kb_205 : Cond.methodLink RX5 65 yX2_put ∈ wsL_law := kbs_9 _ (List.mem_of_getElem? (i := 13) (by decide +kernel))
theorem kb_206 : Cond.instanceMethod yX2_put ∈ wsL_law := kbs_9 _ (List.mem_of_getElem? (i := 14) (by decide +kernel))
theorem kb_207 : Cond.selects RX2 yX2_put yX2_put ∈ wsL_law := kbs_9 _ (List.mem_of_getElem? (i := 15) (by decide +kernel))
theorem kb_208 : Cond.code yX2_put cX2_put 3 none ∈ wsL_law := kbs_9 _ (List.mem_of_getElem? (i := 16) (by decide +kernel))
theorem kb_209 : Cond.methodLink RX5 70 yX2_versionOf ∈ wsL_law := kbs_9 _ (List.mem_of_getElem? (i := 17) (by decide +kernel))
theorem kb_210 : Cond.instanceMethod yX2_versionOf ∈ wsL_law := kbs_9 _ (List.mem_of_getElem? (i := 18) (by decide +kernel))
theorem kb_211 : Cond.selects RX2 yX2_versionOf yX2_versionOf ∈ wsL_law := kbs_9 _ (List.mem_of_getElem? (i := 19) (by decide +kernel))
theorem kb_212 : Cond.code yX2_versionOf cX2_versionOf 2 (some .int) ∈ wsL_law := kbs_9 _ (List.mem_of_getElem? (i := 20) (by decide +kernel))
theorem kb_213 : Cond.methodLink RL 111 yL_rooms ∈ wsL_law := kbs_9 _ (List.mem_of_getElem? (i := 21) (by decide +kernel))
theorem kb_214 : Cond.static yL_rooms ∈ wsL_law := kbs_9 _ (List.mem_of_getElem? (i := 22) (by decide +kernel))
theorem kb_215 : Cond.codeWith yL_rooms cL_rooms 4 (some .int) [(0, 6, 7, 22), (0, 6, 11, 13)] ∈ wsL_law := kbs_9 _ (List.mem_of_getElem? (i := 23) (by decide +kernel))
theorem kb_216 : Cond.methodLink RL 42 yX5_setRoom ∈ wsL_law := kbs_10 _ (List.mem_of_getElem? (i := 0) (by decide +kernel))
theorem kb_217 : Cond.instanceMethod yX5_setRoom ∈ wsL_law := kbs_10 _ (List.mem_of_getElem? (i := 1) (by decide +kernel))
theorem kb_218 : Cond.selects RX5 yX5_setRoom yX5_setRoom ∈ wsL_law := kbs_10 _ (List.mem_of_getElem? (i := 2) (by decide +kernel))
theorem kb_219 : Cond.code yX5_setRoom cX5_setRoom 5 (some .int) ∈ wsL_law := kbs_10 _ (List.mem_of_getElem? (i := 3) (by decide +kernel))
theorem kb_220 : Cond.fieldLink RX5 88 "FieldStore$Device" "room" "I" ∈ wsL_law := kbs_10 _ (List.mem_of_getElem? (i := 4) (by decide +kernel))
theorem kb_221 : Cond.methodLink RX5 84 yX5_deviceAt ∈ wsL_law := kbs_10 _ (List.mem_of_getElem? (i := 5) (by decide +kernel))
theorem kb_222 : Cond.instanceMethod yX5_deviceAt ∈ wsL_law := kbs_10 _ (List.mem_of_getElem? (i := 6) (by decide +kernel))
theorem kb_223 : Cond.selects RX5 yX5_deviceAt yX5_deviceAt ∈ wsL_law := kbs_10 _ (List.mem_of_getElem? (i := 7) (by decide +kernel))
theorem kb_224 : Cond.code yX5_deviceAt cX5_deviceAt 2 (some (.object "FieldStore$Device")) ∈ wsL_law := kbs_10 _ (List.mem_of_getElem? (i := 8) (by decide +kernel))
theorem kb_225 : Cond.methodLink RL 114 yL_fetches ∈ wsL_law := kbs_10 _ (List.mem_of_getElem? (i := 9) (by decide +kernel))
theorem kb_226 : Cond.static yL_fetches ∈ wsL_law := kbs_10 _ (List.mem_of_getElem? (i := 10) (by decide +kernel))
theorem kb_227 : Cond.codeWith yL_fetches cL_fetches 3 (some .int) [(0, 5, 6, 22)] ∈ wsL_law := kbs_10 _ (List.mem_of_getElem? (i := 11) (by decide +kernel))
theorem kb_228 : Cond.methodLink RL 45 yX5_fetch ∈ wsL_law := kbs_10 _ (List.mem_of_getElem? (i := 12) (by decide +kernel))
theorem kb_229 : Cond.instanceMethod yX5_fetch ∈ wsL_law := kbs_10 _ (List.mem_of_getElem? (i := 13) (by decide +kernel))
theorem kb_230 : Cond.selects RX5 yX5_fetch yX5_fetch ∈ wsL_law := kbs_10 _ (List.mem_of_getElem? (i := 14) (by decide +kernel))
theorem kb_231 : Cond.code yX5_fetch cX5_fetch 3 (some .int) ∈ wsL_law := kbs_10 _ (List.mem_of_getElem? (i := 15) (by decide +kernel))
theorem kb_232 : Cond.methodLink RX5 91 yX1_dropCopies ∈ wsL_law := kbs_10 _ (List.mem_of_getElem? (i := 16) (by decide +kernel))
theorem kb_233 : Cond.instanceMethod yX1_dropCopies ∈ wsL_law := kbs_10 _ (List.mem_of_getElem? (i := 17) (by decide +kernel))
theorem kb_234 : Cond.selects RX1 yX1_dropCopies yX1_dropCopies ∈ wsL_law := kbs_10 _ (List.mem_of_getElem? (i := 18) (by decide +kernel))
theorem kb_235 : Cond.code yX1_dropCopies cX1_dropCopies 2 none ∈ wsL_law := kbs_10 _ (List.mem_of_getElem? (i := 19) (by decide +kernel))
theorem kb_236 : Cond.methodLink RX5 94 yX5_copyJobs ∈ wsL_law := kbs_10 _ (List.mem_of_getElem? (i := 20) (by decide +kernel))
theorem kb_237 : Cond.instanceMethod yX5_copyJobs ∈ wsL_law := kbs_10 _ (List.mem_of_getElem? (i := 21) (by decide +kernel))
theorem kb_238 : Cond.selects RX5 yX5_copyJobs yX5_copyJobs ∈ wsL_law := kbs_10 _ (List.mem_of_getElem? (i := 22) (by decide +kernel))
theorem kb_239 : Cond.code yX5_copyJobs cX5_copyJobs 6 none ∈ wsL_law := kbs_10 _ (List.mem_of_getElem? (i := 23) (by decide +kernel))
theorem kb_240 : Cond.fieldLink RX5 168 "FieldStore$Device" "copyCount" "I" ∈ wsL_law := kbs_11 _ (List.mem_of_getElem? (i := 0) (by decide +kernel))
theorem kb_241 : Cond.fieldLink RX5 171 "FieldStore$Fields" "state" "I" ∈ wsL_law := kbs_11 _ (List.mem_of_getElem? (i := 1) (by decide +kernel))
theorem kb_242 : Cond.methodLink RX5 174 yX1_hold ∈ wsL_law := kbs_11 _ (List.mem_of_getElem? (i := 2) (by decide +kernel))
theorem kb_243 : Cond.instanceMethod yX1_hold ∈ wsL_law := kbs_11 _ (List.mem_of_getElem? (i := 3) (by decide +kernel))
theorem kb_244 : Cond.selects RX1 yX1_hold yX1_hold ∈ wsL_law := kbs_11 _ (List.mem_of_getElem? (i := 4) (by decide +kernel))
theorem kb_245 : Cond.code yX1_hold cX1_hold 4 none ∈ wsL_law := kbs_11 _ (List.mem_of_getElem? (i := 5) (by decide +kernel))
theorem kb_246 : Cond.methodLink RX1 69 yX2_copyFrom ∈ wsL_law := kbs_11 _ (List.mem_of_getElem? (i := 6) (by decide +kernel))
theorem kb_247 : Cond.instanceMethod yX2_copyFrom ∈ wsL_law := kbs_11 _ (List.mem_of_getElem? (i := 7) (by decide +kernel))
theorem kb_248 : Cond.selects RX2 yX2_copyFrom yX2_copyFrom ∈ wsL_law := kbs_11 _ (List.mem_of_getElem? (i := 8) (by decide +kernel))
theorem kb_249 : Cond.code yX2_copyFrom cX2_copyFrom 2 none ∈ wsL_law := kbs_11 _ (List.mem_of_getElem? (i := 9) (by decide +kernel))
theorem kb_250 : Cond.methodLink RX5 98 yX1_heldCount ∈ wsL_law := kbs_11 _ (List.mem_of_getElem? (i := 10) (by decide +kernel))
theorem kb_251 : Cond.instanceMethod yX1_heldCount ∈ wsL_law := kbs_11 _ (List.mem_of_getElem? (i := 11) (by decide +kernel))
theorem kb_252 : Cond.selects RX1 yX1_heldCount yX1_heldCount ∈ wsL_law := kbs_11 _ (List.mem_of_getElem? (i := 12) (by decide +kernel))
theorem kb_253 : Cond.code yX1_heldCount cX1_heldCount 1 (some .int) ∈ wsL_law := kbs_11 _ (List.mem_of_getElem? (i := 13) (by decide +kernel))
theorem kb_254 : Cond.methodLink RL 123 yL_changes ∈ wsL_law := kbs_11 _ (List.mem_of_getElem? (i := 14) (by decide +kernel))
theorem kb_255 : Cond.static yL_changes ∈ wsL_law := kbs_11 _ (List.mem_of_getElem? (i := 15) (by decide +kernel))
theorem kb_256 : Cond.codeWith yL_changes cL_changes 6 (some .int) [(0, 9, 10, 22), (0, 9, 15, 13), (0, 9, 20, 16)] ∈ wsL_law := kbs_11 _ (List.mem_of_getElem? (i := 16) (by decide +kernel))
theorem kb_257 : Cond.methodLink RL 58 yX5_change ∈ wsL_law := kbs_11 _ (List.mem_of_getElem? (i := 17) (by decide +kernel))
theorem kb_258 : Cond.instanceMethod yX5_change ∈ wsL_law := kbs_11 _ (List.mem_of_getElem? (i := 18) (by decide +kernel))
theorem kb_259 : Cond.selects RX5 yX5_change yX5_change ∈ wsL_law := kbs_11 _ (List.mem_of_getElem? (i := 19) (by decide +kernel))
theorem kb_260 : Cond.code yX5_change cX5_change 7 (some .int) ∈ wsL_law := kbs_11 _ (List.mem_of_getElem? (i := 20) (by decide +kernel))
theorem kb_261 : Cond.methodLink RX5 105 yX5_fieldsHeld ∈ wsL_law := kbs_11 _ (List.mem_of_getElem? (i := 21) (by decide +kernel))
theorem kb_262 : Cond.static yX5_fieldsHeld ∈ wsL_law := kbs_11 _ (List.mem_of_getElem? (i := 22) (by decide +kernel))
theorem kb_263 : Cond.code yX5_fieldsHeld cX5_fieldsHeld 3 (some (.object "FieldStore$Fields")) ∈ wsL_law := kbs_11 _ (List.mem_of_getElem? (i := 23) (by decide +kernel))
theorem kb_264 : Cond.methodLink RX5 101 yX1_heldFields ∈ wsL_law := kbs_12 _ (List.mem_of_getElem? (i := 0) (by decide +kernel))
theorem kb_265 : Cond.instanceMethod yX1_heldFields ∈ wsL_law := kbs_12 _ (List.mem_of_getElem? (i := 1) (by decide +kernel))
theorem kb_266 : Cond.selects RX1 yX1_heldFields yX1_heldFields ∈ wsL_law := kbs_12 _ (List.mem_of_getElem? (i := 2) (by decide +kernel))
theorem kb_267 : Cond.code yX1_heldFields cX1_heldFields 4 (some (.object "FieldStore$Fields")) ∈ wsL_law := kbs_12 _ (List.mem_of_getElem? (i := 3) (by decide +kernel))
theorem kb_268 : Cond.fieldLink RX1 61 "FieldStore$Made" "number" "I" ∈ wsL_law := kbs_12 _ (List.mem_of_getElem? (i := 4) (by decide +kernel))
theorem kb_269 : Cond.fieldLink RX1 64 "FieldStore$Made" "fields" "LFieldStore$Fields;" ∈ wsL_law := kbs_12 _ (List.mem_of_getElem? (i := 5) (by decide +kernel))
theorem kb_270 : Cond.methodLink RX1 57 yX1_madeJob ∈ wsL_law := kbs_12 _ (List.mem_of_getElem? (i := 6) (by decide +kernel))
theorem kb_271 : Cond.instanceMethod yX1_madeJob ∈ wsL_law := kbs_12 _ (List.mem_of_getElem? (i := 7) (by decide +kernel))
theorem kb_272 : Cond.selects RX1 yX1_madeJob yX1_madeJob ∈ wsL_law := kbs_12 _ (List.mem_of_getElem? (i := 8) (by decide +kernel))
theorem kb_273 : Cond.code yX1_madeJob cX1_madeJob 2 (some (.object "FieldStore$Made")) ∈ wsL_law := kbs_12 _ (List.mem_of_getElem? (i := 9) (by decide +kernel))
theorem kb_274 : Cond.classLink RX1 55 "FieldStore$Made" ∈ wsL_law := kbs_12 _ (List.mem_of_getElem? (i := 10) (by decide +kernel))
theorem kb_275 : Cond.methodLink RX1 47 yJx4a65c_size_8abf5 ∈ wsL_law := kbs_12 _ (List.mem_of_getElem? (i := 11) (by decide +kernel))
theorem kb_276 : Cond.methodLink RX1 51 yJx4a65c_get_915e3 ∈ wsL_law := kbs_12 _ (List.mem_of_getElem? (i := 12) (by decide +kernel))
theorem kb_277 : Cond.methodLink RX5 109 yX1_takesActs ∈ wsL_law := kbs_12 _ (List.mem_of_getElem? (i := 13) (by decide +kernel))
theorem kb_278 : Cond.instanceMethod yX1_takesActs ∈ wsL_law := kbs_12 _ (List.mem_of_getElem? (i := 14) (by decide +kernel))
theorem kb_279 : Cond.selects RX1 yX1_takesActs yX1_takesActs ∈ wsL_law := kbs_12 _ (List.mem_of_getElem? (i := 15) (by decide +kernel))
theorem kb_280 : Cond.code yX1_takesActs cX1_takesActs 1 (some .boolean) ∈ wsL_law := kbs_12 _ (List.mem_of_getElem? (i := 16) (by decide +kernel))
theorem kb_281 : Cond.methodLink RX5 113 yX1_changeJob ∈ wsL_law := kbs_12 _ (List.mem_of_getElem? (i := 17) (by decide +kernel))
theorem kb_282 : Cond.instanceMethod yX1_changeJob ∈ wsL_law := kbs_12 _ (List.mem_of_getElem? (i := 18) (by decide +kernel))
theorem kb_283 : Cond.selects RX1 yX1_changeJob yX1_changeJob ∈ wsL_law := kbs_12 _ (List.mem_of_getElem? (i := 19) (by decide +kernel))
theorem kb_284 : Cond.code yX1_changeJob cX1_changeJob 5 none ∈ wsL_law := kbs_12 _ (List.mem_of_getElem? (i := 20) (by decide +kernel))
theorem kb_285 : Cond.classLink RX1 82 RX0 ∈ wsL_law := kbs_12 _ (List.mem_of_getElem? (i := 21) (by decide +kernel))
theorem kb_286 : Cond.instantiable RX0 5 ∈ wsL_law := kbs_12 _ (List.mem_of_getElem? (i := 22) (by decide +kernel))
theorem kb_287 : Cond.initialized RX0 ∈ wsL_law := kbs_12 _ (List.mem_of_getElem? (i := 23) (by decide +kernel))
theorem kb_288 : Cond.methodLink RX1 87 yX2_versionOf ∈ wsL_law := kbs_13 _ (List.mem_of_getElem? (i := 0) (by decide +kernel))
theorem kb_289 : Cond.methodLink RX1 84 yX0_init ∈ wsL_law := kbs_13 _ (List.mem_of_getElem? (i := 1) (by decide +kernel))
theorem kb_290 : Cond.instanceMethod yX0_init ∈ wsL_law := kbs_13 _ (List.mem_of_getElem? (i := 2) (by decide +kernel))
theorem kb_291 : Cond.code yX0_init cX0_init 5 none ∈ wsL_law := kbs_13 _ (List.mem_of_getElem? (i := 3) (by decide +kernel))
theorem kb_292 : Cond.methodLink RX0 3 objectInit ∈ wsL_law := kbs_13 _ (List.mem_of_getElem? (i := 4) (by decide +kernel))
theorem kb_293 : Cond.fieldLink RX0 9 "FieldStore$Act" "reason" "I" ∈ wsL_law := kbs_13 _ (List.mem_of_getElem? (i := 5) (by decide +kernel))
theorem kb_294 : Cond.fieldLink RX0 15 "FieldStore$Act" "job" "I" ∈ wsL_law := kbs_13 _ (List.mem_of_getElem? (i := 6) (by decide +kernel))
theorem kb_295 : Cond.fieldLink RX0 18 "FieldStore$Act" "field" "I" ∈ wsL_law := kbs_13 _ (List.mem_of_getElem? (i := 7) (by decide +kernel))
theorem kb_296 : Cond.fieldLink RX0 21 "FieldStore$Act" "value" "I" ∈ wsL_law := kbs_13 _ (List.mem_of_getElem? (i := 8) (by decide +kernel))
theorem kb_297 : Cond.fieldLink RX0 24 "FieldStore$Act" "version" "I" ∈ wsL_law := kbs_13 _ (List.mem_of_getElem? (i := 9) (by decide +kernel))
theorem kb_298 : Cond.methodLink RX1 78 yJx4a65c_add_9ea2d ∈ wsL_law := kbs_13 _ (List.mem_of_getElem? (i := 10) (by decide +kernel))
theorem kb_299 : Cond.methodLink RX1 91 yX2_put ∈ wsL_law := kbs_13 _ (List.mem_of_getElem? (i := 11) (by decide +kernel))
theorem kb_300 : Cond.methodLink RX5 117 yX1_waitingCount ∈ wsL_law := kbs_13 _ (List.mem_of_getElem? (i := 12) (by decide +kernel))
theorem kb_301 : Cond.instanceMethod yX1_waitingCount ∈ wsL_law := kbs_13 _ (List.mem_of_getElem? (i := 13) (by decide +kernel))
theorem kb_302 : Cond.selects RX1 yX1_waitingCount yX1_waitingCount ∈ wsL_law := kbs_13 _ (List.mem_of_getElem? (i := 14) (by decide +kernel))
theorem kb_303 : Cond.code yX1_waitingCount cX1_waitingCount 1 (some .int) ∈ wsL_law := kbs_13 _ (List.mem_of_getElem? (i := 15) (by decide +kernel))
theorem kb_304 : Cond.methodLink RL 127 yL_makes ∈ wsL_law := kbs_13 _ (List.mem_of_getElem? (i := 16) (by decide +kernel))
theorem kb_305 : Cond.static yL_makes ∈ wsL_law := kbs_13 _ (List.mem_of_getElem? (i := 17) (by decide +kernel))
theorem kb_306 : Cond.codeWith yL_makes cL_makes 4 (some .int) [(0, 6, 7, 22), (0, 6, 11, 13)] ∈ wsL_law := kbs_13 _ (List.mem_of_getElem? (i := 18) (by decide +kernel))
theorem kb_307 : Cond.methodLink RL 62 yX5_make ∈ wsL_law := kbs_13 _ (List.mem_of_getElem? (i := 19) (by decide +kernel))
theorem kb_308 : Cond.instanceMethod yX5_make ∈ wsL_law := kbs_13 _ (List.mem_of_getElem? (i := 20) (by decide +kernel))
theorem kb_309 : Cond.selects RX5 yX5_make yX5_make ∈ wsL_law := kbs_13 _ (List.mem_of_getElem? (i := 21) (by decide +kernel))
theorem kb_310 : Cond.code yX5_make cX5_make 4 (some .int) ∈ wsL_law := kbs_13 _ (List.mem_of_getElem? (i := 22) (by decide +kernel))
theorem kb_311 : Cond.methodLink RX5 120 yX1_makeJob ∈ wsL_law := kbs_13 _ (List.mem_of_getElem? (i := 23) (by decide +kernel))
theorem kb_312 : Cond.instanceMethod yX1_makeJob ∈ wsL_law := kbs_14 _ (List.mem_of_getElem? (i := 0) (by decide +kernel))
theorem kb_313 : Cond.selects RX1 yX1_makeJob yX1_makeJob ∈ wsL_law := kbs_14 _ (List.mem_of_getElem? (i := 1) (by decide +kernel))
theorem kb_314 : Cond.code yX1_makeJob cX1_makeJob 3 (some .int) ∈ wsL_law := kbs_14 _ (List.mem_of_getElem? (i := 2) (by decide +kernel))
theorem kb_315 : Cond.classLink RX1 55 RX4 ∈ wsL_law := kbs_14 _ (List.mem_of_getElem? (i := 3) (by decide +kernel))
theorem kb_316 : Cond.instantiable RX4 2 ∈ wsL_law := kbs_14 _ (List.mem_of_getElem? (i := 4) (by decide +kernel))
theorem kb_317 : Cond.initialized RX4 ∈ wsL_law := kbs_14 _ (List.mem_of_getElem? (i := 5) (by decide +kernel))
theorem kb_318 : Cond.instanceMethod yX4_init ∈ wsL_law := kbs_14 _ (List.mem_of_getElem? (i := 6) (by decide +kernel))
theorem kb_319 : Cond.code yX4_init cX4_init 1 none ∈ wsL_law := kbs_14 _ (List.mem_of_getElem? (i := 7) (by decide +kernel))
theorem kb_320 : Cond.methodLink RX4 3 objectInit ∈ wsL_law := kbs_14 _ (List.mem_of_getElem? (i := 8) (by decide +kernel))
theorem kb_321 : Cond.fieldLink RX4 9 "FieldStore$Made" "number" "I" ∈ wsL_law := kbs_14 _ (List.mem_of_getElem? (i := 9) (by decide +kernel))
theorem kb_322 : Cond.classLink RX4 15 RX2 ∈ wsL_law := kbs_14 _ (List.mem_of_getElem? (i := 10) (by decide +kernel))
theorem kb_323 : Cond.fieldLink RX4 18 "FieldStore$Made" "fields" "LFieldStore$Fields;" ∈ wsL_law := kbs_14 _ (List.mem_of_getElem? (i := 11) (by decide +kernel))
theorem kb_324 : Cond.methodLink RL 136 yL_waiting ∈ wsL_law := kbs_14 _ (List.mem_of_getElem? (i := 12) (by decide +kernel))
theorem kb_325 : Cond.static yL_waiting ∈ wsL_law := kbs_14 _ (List.mem_of_getElem? (i := 13) (by decide +kernel))
theorem kb_326 : Cond.codeWith yL_waiting cL_waiting 3 (some .int) [(0, 5, 6, 22)] ∈ wsL_law := kbs_14 _ (List.mem_of_getElem? (i := 14) (by decide +kernel))
theorem kb_327 : Cond.methodLink RL 71 yX5_waiting ∈ wsL_law := kbs_14 _ (List.mem_of_getElem? (i := 15) (by decide +kernel))
theorem kb_328 : Cond.instanceMethod yX5_waiting ∈ wsL_law := kbs_14 _ (List.mem_of_getElem? (i := 16) (by decide +kernel))
theorem kb_329 : Cond.selects RX5 yX5_waiting yX5_waiting ∈ wsL_law := kbs_14 _ (List.mem_of_getElem? (i := 17) (by decide +kernel))
theorem kb_330 : Cond.code yX5_waiting cX5_waiting 2 (some .int) ∈ wsL_law := kbs_14 _ (List.mem_of_getElem? (i := 18) (by decide +kernel))
theorem kb_331 : Cond.methodLink RL 133 yL_sends ∈ wsL_law := kbs_14 _ (List.mem_of_getElem? (i := 19) (by decide +kernel))
theorem kb_332 : Cond.static yL_sends ∈ wsL_law := kbs_14 _ (List.mem_of_getElem? (i := 20) (by decide +kernel))
theorem kb_333 : Cond.codeWith yL_sends cL_sends 4 (some .int) [(0, 6, 7, 22), (0, 6, 11, 13)] ∈ wsL_law := kbs_14 _ (List.mem_of_getElem? (i := 21) (by decide +kernel))
theorem kb_334 : Cond.methodLink RL 68 yX5_send ∈ wsL_law := kbs_14 _ (List.mem_of_getElem? (i := 22) (by decide +kernel))
theorem kb_335 : Cond.instanceMethod yX5_send ∈ wsL_law := kbs_14 _ (List.mem_of_getElem? (i := 23) (by decide +kernel))
theorem kb_336 : Cond.selects RX5 yX5_send yX5_send ∈ wsL_law := kbs_15 _ (List.mem_of_getElem? (i := 0) (by decide +kernel))
theorem kb_337 : Cond.code yX5_send cX5_send 8 (some .int) ∈ wsL_law := kbs_15 _ (List.mem_of_getElem? (i := 1) (by decide +kernel))
theorem kb_338 : Cond.methodLink RX5 137 yX1_takeAct ∈ wsL_law := kbs_15 _ (List.mem_of_getElem? (i := 2) (by decide +kernel))
theorem kb_339 : Cond.instanceMethod yX1_takeAct ∈ wsL_law := kbs_15 _ (List.mem_of_getElem? (i := 3) (by decide +kernel))
theorem kb_340 : Cond.selects RX1 yX1_takeAct yX1_takeAct ∈ wsL_law := kbs_15 _ (List.mem_of_getElem? (i := 4) (by decide +kernel))
theorem kb_341 : Cond.code yX1_takeAct cX1_takeAct 2 (some (.object "FieldStore$Act")) ∈ wsL_law := kbs_15 _ (List.mem_of_getElem? (i := 5) (by decide +kernel))
theorem kb_342 : Cond.classLink RX1 82 "FieldStore$Act" ∈ wsL_law := kbs_15 _ (List.mem_of_getElem? (i := 6) (by decide +kernel))
theorem kb_343 : Cond.methodLink RX5 141 yX5_deliver ∈ wsL_law := kbs_15 _ (List.mem_of_getElem? (i := 7) (by decide +kernel))
theorem kb_344 : Cond.instanceMethod yX5_deliver ∈ wsL_law := kbs_15 _ (List.mem_of_getElem? (i := 8) (by decide +kernel))
theorem kb_345 : Cond.selects RX5 yX5_deliver yX5_deliver ∈ wsL_law := kbs_15 _ (List.mem_of_getElem? (i := 9) (by decide +kernel))
theorem kb_346 : Cond.code yX5_deliver cX5_deliver 4 (some .int) ∈ wsL_law := kbs_15 _ (List.mem_of_getElem? (i := 10) (by decide +kernel))
theorem kb_347 : Cond.fieldLink RX5 178 "FieldStore$Act" "field" "I" ∈ wsL_law := kbs_15 _ (List.mem_of_getElem? (i := 11) (by decide +kernel))
theorem kb_348 : Cond.methodLink RX5 181 yX5_deliverMaking ∈ wsL_law := kbs_15 _ (List.mem_of_getElem? (i := 12) (by decide +kernel))
theorem kb_349 : Cond.instanceMethod yX5_deliverMaking ∈ wsL_law := kbs_15 _ (List.mem_of_getElem? (i := 13) (by decide +kernel))
theorem kb_350 : Cond.selects RX5 yX5_deliverMaking yX5_deliverMaking ∈ wsL_law := kbs_15 _ (List.mem_of_getElem? (i := 14) (by decide +kernel))
theorem kb_351 : Cond.code yX5_deliverMaking cX5_deliverMaking 5 (some .int) ∈ wsL_law := kbs_15 _ (List.mem_of_getElem? (i := 15) (by decide +kernel))
theorem kb_352 : Cond.fieldLink RX5 187 "FieldStore$Act" "job" "I" ∈ wsL_law := kbs_15 _ (List.mem_of_getElem? (i := 16) (by decide +kernel))
theorem kb_353 : Cond.fieldLink RX5 161 "FieldStore$Act" "value" "I" ∈ wsL_law := kbs_15 _ (List.mem_of_getElem? (i := 17) (by decide +kernel))
theorem kb_354 : Cond.methodLink RX5 123 yX1_madeJob ∈ wsL_law := kbs_15 _ (List.mem_of_getElem? (i := 18) (by decide +kernel))
theorem kb_355 : Cond.methodLink RX5 190 yX1_giveNumber ∈ wsL_law := kbs_15 _ (List.mem_of_getElem? (i := 19) (by decide +kernel))
theorem kb_356 : Cond.instanceMethod yX1_giveNumber ∈ wsL_law := kbs_15 _ (List.mem_of_getElem? (i := 20) (by decide +kernel))
theorem kb_357 : Cond.selects RX1 yX1_giveNumber yX1_giveNumber ∈ wsL_law := kbs_15 _ (List.mem_of_getElem? (i := 21) (by decide +kernel))
theorem kb_358 : Cond.code yX1_giveNumber cX1_giveNumber 3 none ∈ wsL_law := kbs_15 _ (List.mem_of_getElem? (i := 22) (by decide +kernel))
theorem kb_359 : Cond.methodLink RX1 73 yX1_hold ∈ wsL_law := kbs_15 _ (List.mem_of_getElem? (i := 23) (by decide +kernel))
theorem kb_360 : Cond.methodLink RX5 184 yX5_deliverChange ∈ wsL_law := kbs_16 _ (List.mem_of_getElem? (i := 0) (by decide +kernel))
theorem kb_361 : Cond.instanceMethod yX5_deliverChange ∈ wsL_law := kbs_16 _ (List.mem_of_getElem? (i := 1) (by decide +kernel))
theorem kb_362 : Cond.selects RX5 yX5_deliverChange yX5_deliverChange ∈ wsL_law := kbs_16 _ (List.mem_of_getElem? (i := 2) (by decide +kernel))
theorem kb_363 : Cond.code yX5_deliverChange cX5_deliverChange 6 (some .int) ∈ wsL_law := kbs_16 _ (List.mem_of_getElem? (i := 3) (by decide +kernel))
theorem kb_364 : Cond.fieldLink RX5 197 "FieldStore$Act" "version" "I" ∈ wsL_law := kbs_16 _ (List.mem_of_getElem? (i := 4) (by decide +kernel))
theorem kb_365 : Cond.methodLink RX5 194 yX1_centralNumber ∈ wsL_law := kbs_16 _ (List.mem_of_getElem? (i := 5) (by decide +kernel))
theorem kb_366 : Cond.instanceMethod yX1_centralNumber ∈ wsL_law := kbs_16 _ (List.mem_of_getElem? (i := 6) (by decide +kernel))
theorem kb_367 : Cond.selects RX1 yX1_centralNumber yX1_centralNumber ∈ wsL_law := kbs_16 _ (List.mem_of_getElem? (i := 7) (by decide +kernel))
theorem kb_368 : Cond.code yX1_centralNumber cX1_centralNumber 3 (some .int) ∈ wsL_law := kbs_16 _ (List.mem_of_getElem? (i := 8) (by decide +kernel))
theorem kb_369 : Cond.methodLink RX5 200 yX5_isStep ∈ wsL_law := kbs_16 _ (List.mem_of_getElem? (i := 9) (by decide +kernel))
theorem kb_370 : Cond.static yX5_isStep ∈ wsL_law := kbs_16 _ (List.mem_of_getElem? (i := 10) (by decide +kernel))
theorem kb_371 : Cond.code yX5_isStep cX5_isStep 2 (some .boolean) ∈ wsL_law := kbs_16 _ (List.mem_of_getElem? (i := 11) (by decide +kernel))
theorem kb_372 : Cond.methodLink RX5 145 yX1_refuse ∈ wsL_law := kbs_16 _ (List.mem_of_getElem? (i := 12) (by decide +kernel))
theorem kb_373 : Cond.instanceMethod yX1_refuse ∈ wsL_law := kbs_16 _ (List.mem_of_getElem? (i := 13) (by decide +kernel))
theorem kb_374 : Cond.selects RX1 yX1_refuse yX1_refuse ∈ wsL_law := kbs_16 _ (List.mem_of_getElem? (i := 14) (by decide +kernel))
theorem kb_375 : Cond.code yX1_refuse cX1_refuse 3 none ∈ wsL_law := kbs_16 _ (List.mem_of_getElem? (i := 15) (by decide +kernel))
theorem kb_376 : Cond.fieldLink RX1 95 "FieldStore$Act" "reason" "I" ∈ wsL_law := kbs_16 _ (List.mem_of_getElem? (i := 16) (by decide +kernel))
theorem kb_377 : Cond.methodLink RL 157 yL_refuses ∈ wsL_law := kbs_16 _ (List.mem_of_getElem? (i := 17) (by decide +kernel))
theorem kb_378 : Cond.static yL_refuses ∈ wsL_law := kbs_16 _ (List.mem_of_getElem? (i := 18) (by decide +kernel))
theorem kb_379 : Cond.code yL_refuses cL_refuses 8 (some .boolean) ∈ wsL_law := kbs_16 _ (List.mem_of_getElem? (i := 19) rfl)
theorem kb_380 : Cond.methodLink RL 102 yL_crew ∈ wsL_law := kbs_16 _ (List.mem_of_getElem? (i := 20) (by decide +kernel))
theorem kb_381 : Cond.static yL_crew ∈ wsL_law := kbs_16 _ (List.mem_of_getElem? (i := 21) (by decide +kernel))
theorem kb_382 : Cond.codeWith yL_crew cL_crew 3 (some .int) [(0, 5, 6, 22)] ∈ wsL_law := kbs_16 _ (List.mem_of_getElem? (i := 22) (by decide +kernel))
theorem kb_383 : Cond.methodLink RL 29 yX5_crew ∈ wsL_law := kbs_16 _ (List.mem_of_getElem? (i := 23) (by decide +kernel))
theorem kb_384 : Cond.instanceMethod yX5_crew ∈ wsL_law := kbs_17 _ (List.mem_of_getElem? (i := 0) (by decide +kernel))
theorem kb_385 : Cond.selects RX5 yX5_crew yX5_crew ∈ wsL_law := kbs_17 _ (List.mem_of_getElem? (i := 1) (by decide +kernel))
theorem kb_386 : Cond.code yX5_crew cX5_crew 2 (some .int) ∈ wsL_law := kbs_17 _ (List.mem_of_getElem? (i := 2) (by decide +kernel))
theorem kb_387 : Cond.methodLink RL 105 yL_site ∈ wsL_law := kbs_17 _ (List.mem_of_getElem? (i := 3) (by decide +kernel))
theorem kb_388 : Cond.static yL_site ∈ wsL_law := kbs_17 _ (List.mem_of_getElem? (i := 4) (by decide +kernel))
theorem kb_389 : Cond.codeWith yL_site cL_site 3 (some .int) [(0, 5, 6, 22)] ∈ wsL_law := kbs_17 _ (List.mem_of_getElem? (i := 5) (by decide +kernel))
theorem kb_390 : Cond.methodLink RL 33 yX5_site ∈ wsL_law := kbs_17 _ (List.mem_of_getElem? (i := 6) (by decide +kernel))
theorem kb_391 : Cond.instanceMethod yX5_site ∈ wsL_law := kbs_17 _ (List.mem_of_getElem? (i := 7) (by decide +kernel))
theorem kb_392 : Cond.selects RX5 yX5_site yX5_site ∈ wsL_law := kbs_17 _ (List.mem_of_getElem? (i := 8) (by decide +kernel))
theorem kb_393 : Cond.code yX5_site cX5_site 2 (some .int) ∈ wsL_law := kbs_17 _ (List.mem_of_getElem? (i := 9) (by decide +kernel))
theorem kb_394 : Cond.fieldLink RX5 74 "FieldStore$Job" "site" "I" ∈ wsL_law := kbs_17 _ (List.mem_of_getElem? (i := 10) (by decide +kernel))
theorem kb_395 : Cond.methodLink RL 107 yL_value ∈ wsL_law := kbs_17 _ (List.mem_of_getElem? (i := 11) (by decide +kernel))
theorem kb_396 : Cond.static yL_value ∈ wsL_law := kbs_17 _ (List.mem_of_getElem? (i := 12) (by decide +kernel))
theorem kb_397 : Cond.codeWith yL_value cL_value 4 (some .int) [(0, 6, 7, 22), (0, 6, 11, 13)] ∈ wsL_law := kbs_17 _ (List.mem_of_getElem? (i := 13) (by decide +kernel))
theorem kb_398 : Cond.methodLink RL 36 yX5_value ∈ wsL_law := kbs_17 _ (List.mem_of_getElem? (i := 14) (by decide +kernel))
theorem kb_399 : Cond.instanceMethod yX5_value ∈ wsL_law := kbs_17 _ (List.mem_of_getElem? (i := 15) (by decide +kernel))
theorem kb_400 : Cond.selects RX5 yX5_value yX5_value ∈ wsL_law := kbs_17 _ (List.mem_of_getElem? (i := 16) (by decide +kernel))
theorem kb_401 : Cond.code yX5_value cX5_value 4 (some .int) ∈ wsL_law := kbs_17 _ (List.mem_of_getElem? (i := 17) (by decide +kernel))
theorem kb_402 : Cond.methodLink RX5 81 yX2_valueOf ∈ wsL_law := kbs_17 _ (List.mem_of_getElem? (i := 18) (by decide +kernel))
theorem kb_403 : Cond.instanceMethod yX2_valueOf ∈ wsL_law := kbs_17 _ (List.mem_of_getElem? (i := 19) (by decide +kernel))
theorem kb_404 : Cond.selects RX2 yX2_valueOf yX2_valueOf ∈ wsL_law := kbs_17 _ (List.mem_of_getElem? (i := 20) (by decide +kernel))
theorem kb_405 : Cond.code yX2_valueOf cX2_valueOf 2 (some .int) ∈ wsL_law := kbs_17 _ (List.mem_of_getElem? (i := 21) (by decide +kernel))
theorem kb_406 : Cond.methodLink RL 109 yL_version ∈ wsL_law := kbs_17 _ (List.mem_of_getElem? (i := 22) (by decide +kernel))
theorem kb_407 : Cond.static yL_version ∈ wsL_law := kbs_17 _ (List.mem_of_getElem? (i := 23) (by decide +kernel))
theorem kb_408 : Cond.codeWith yL_version cL_version 4 (some .int) [(0, 6, 7, 22), (0, 6, 11, 13)] ∈ wsL_law := kbs_18 _ (List.mem_of_getElem? (i := 0) (by decide +kernel))
theorem kb_409 : Cond.methodLink RL 39 yX5_version ∈ wsL_law := kbs_18 _ (List.mem_of_getElem? (i := 1) (by decide +kernel))
theorem kb_410 : Cond.instanceMethod yX5_version ∈ wsL_law := kbs_18 _ (List.mem_of_getElem? (i := 2) (by decide +kernel))
theorem kb_411 : Cond.selects RX5 yX5_version yX5_version ∈ wsL_law := kbs_18 _ (List.mem_of_getElem? (i := 3) (by decide +kernel))
theorem kb_412 : Cond.code yX5_version cX5_version 4 (some .int) ∈ wsL_law := kbs_18 _ (List.mem_of_getElem? (i := 4) (by decide +kernel))
theorem kb_413 : Cond.methodLink RL 117 yL_held ∈ wsL_law := kbs_18 _ (List.mem_of_getElem? (i := 5) (by decide +kernel))
theorem kb_414 : Cond.static yL_held ∈ wsL_law := kbs_18 _ (List.mem_of_getElem? (i := 6) (by decide +kernel))
theorem kb_415 : Cond.codeWith yL_held cL_held 3 (some .int) [(0, 5, 6, 22)] ∈ wsL_law := kbs_18 _ (List.mem_of_getElem? (i := 7) (by decide +kernel))
theorem kb_416 : Cond.methodLink RL 48 yX5_held ∈ wsL_law := kbs_18 _ (List.mem_of_getElem? (i := 8) (by decide +kernel))
theorem kb_417 : Cond.instanceMethod yX5_held ∈ wsL_law := kbs_18 _ (List.mem_of_getElem? (i := 9) (by decide +kernel))
theorem kb_418 : Cond.selects RX5 yX5_held yX5_held ∈ wsL_law := kbs_18 _ (List.mem_of_getElem? (i := 10) (by decide +kernel))
theorem kb_419 : Cond.code yX5_held cX5_held 2 (some .int) ∈ wsL_law := kbs_18 _ (List.mem_of_getElem? (i := 11) (by decide +kernel))
theorem kb_420 : Cond.methodLink RL 119 yL_holds ∈ wsL_law := kbs_18 _ (List.mem_of_getElem? (i := 12) (by decide +kernel))
theorem kb_421 : Cond.static yL_holds ∈ wsL_law := kbs_18 _ (List.mem_of_getElem? (i := 13) (by decide +kernel))
theorem kb_422 : Cond.codeWith yL_holds cL_holds 4 (some .int) [(0, 14, 15, 22)] ∈ wsL_law := kbs_18 _ (List.mem_of_getElem? (i := 14) (by decide +kernel))
theorem kb_423 : Cond.methodLink RL 51 yX5_holds ∈ wsL_law := kbs_18 _ (List.mem_of_getElem? (i := 15) (by decide +kernel))
theorem kb_424 : Cond.instanceMethod yX5_holds ∈ wsL_law := kbs_18 _ (List.mem_of_getElem? (i := 16) (by decide +kernel))
theorem kb_425 : Cond.selects RX5 yX5_holds yX5_holds ∈ wsL_law := kbs_18 _ (List.mem_of_getElem? (i := 17) (by decide +kernel))
theorem kb_426 : Cond.code yX5_holds cX5_holds 3 (some .boolean) ∈ wsL_law := kbs_18 _ (List.mem_of_getElem? (i := 18) (by decide +kernel))
theorem kb_427 : Cond.methodLink RL 121 yL_heldValue ∈ wsL_law := kbs_18 _ (List.mem_of_getElem? (i := 19) (by decide +kernel))
theorem kb_428 : Cond.static yL_heldValue ∈ wsL_law := kbs_18 _ (List.mem_of_getElem? (i := 20) (by decide +kernel))
theorem kb_429 : Cond.codeWith yL_heldValue cL_heldValue 5 (some .int) [(0, 7, 8, 22), (0, 7, 13, 13), (0, 7, 18, 16)] ∈ wsL_law := kbs_18 _ (List.mem_of_getElem? (i := 21) (by decide +kernel))
theorem kb_430 : Cond.methodLink RL 55 yX5_heldValue ∈ wsL_law := kbs_18 _ (List.mem_of_getElem? (i := 22) (by decide +kernel))
theorem kb_431 : Cond.instanceMethod yX5_heldValue ∈ wsL_law := kbs_18 _ (List.mem_of_getElem? (i := 23) (by decide +kernel))
theorem kb_432 : Cond.selects RX5 yX5_heldValue yX5_heldValue ∈ wsL_law := kbs_19 _ (List.mem_of_getElem? (i := 0) (by decide +kernel))
theorem kb_433 : Cond.code yX5_heldValue cX5_heldValue 5 (some .int) ∈ wsL_law := kbs_19 _ (List.mem_of_getElem? (i := 1) (by decide +kernel))
theorem kb_434 : Cond.methodLink RL 130 yL_number ∈ wsL_law := kbs_19 _ (List.mem_of_getElem? (i := 2) (by decide +kernel))
theorem kb_435 : Cond.static yL_number ∈ wsL_law := kbs_19 _ (List.mem_of_getElem? (i := 3) (by decide +kernel))
theorem kb_436 : Cond.codeWith yL_number cL_number 4 (some .int) [(0, 6, 7, 22), (0, 6, 11, 13)] ∈ wsL_law := kbs_19 _ (List.mem_of_getElem? (i := 4) (by decide +kernel))
theorem kb_437 : Cond.methodLink RL 65 yX5_numberOf ∈ wsL_law := kbs_19 _ (List.mem_of_getElem? (i := 5) (by decide +kernel))
theorem kb_438 : Cond.instanceMethod yX5_numberOf ∈ wsL_law := kbs_19 _ (List.mem_of_getElem? (i := 6) (by decide +kernel))
theorem kb_439 : Cond.selects RX5 yX5_numberOf yX5_numberOf ∈ wsL_law := kbs_19 _ (List.mem_of_getElem? (i := 7) (by decide +kernel))
theorem kb_440 : Cond.code yX5_numberOf cX5_numberOf 4 (some .int) ∈ wsL_law := kbs_19 _ (List.mem_of_getElem? (i := 8) (by decide +kernel))
theorem kb_441 : Cond.fieldLink RX5 132 "FieldStore$Made" "number" "I" ∈ wsL_law := kbs_19 _ (List.mem_of_getElem? (i := 9) (by decide +kernel))
theorem kb_442 : Cond.methodLink RL 138 yL_pile ∈ wsL_law := kbs_19 _ (List.mem_of_getElem? (i := 10) (by decide +kernel))
theorem kb_443 : Cond.static yL_pile ∈ wsL_law := kbs_19 _ (List.mem_of_getElem? (i := 11) (by decide +kernel))
theorem kb_444 : Cond.codeWith yL_pile cL_pile 3 (some .int) [(0, 5, 6, 22)] ∈ wsL_law := kbs_19 _ (List.mem_of_getElem? (i := 12) (by decide +kernel))
theorem kb_445 : Cond.methodLink RL 74 yX5_pile ∈ wsL_law := kbs_19 _ (List.mem_of_getElem? (i := 13) (by decide +kernel))
theorem kb_446 : Cond.instanceMethod yX5_pile ∈ wsL_law := kbs_19 _ (List.mem_of_getElem? (i := 14) (by decide +kernel))
theorem kb_447 : Cond.selects RX5 yX5_pile yX5_pile ∈ wsL_law := kbs_19 _ (List.mem_of_getElem? (i := 15) (by decide +kernel))
theorem kb_448 : Cond.code yX5_pile cX5_pile 2 (some .int) ∈ wsL_law := kbs_19 _ (List.mem_of_getElem? (i := 16) (by decide +kernel))
theorem kb_449 : Cond.fieldLink RX5 149 "FieldStore$Device" "refused" "Ljava/util/ArrayList;" ∈ wsL_law := kbs_19 _ (List.mem_of_getElem? (i := 17) (by decide +kernel))
theorem kb_450 : Cond.methodLink RL 140 yL_reason ∈ wsL_law := kbs_19 _ (List.mem_of_getElem? (i := 18) (by decide +kernel))
theorem kb_451 : Cond.static yL_reason ∈ wsL_law := kbs_19 _ (List.mem_of_getElem? (i := 19) (by decide +kernel))
theorem kb_452 : Cond.codeWith yL_reason cL_reason 4 (some .int) [(0, 6, 7, 22)] ∈ wsL_law := kbs_19 _ (List.mem_of_getElem? (i := 20) (by decide +kernel))
theorem kb_453 : Cond.methodLink RL 77 yX5_reason ∈ wsL_law := kbs_19 _ (List.mem_of_getElem? (i := 21) (by decide +kernel))
theorem kb_454 : Cond.instanceMethod yX5_reason ∈ wsL_law := kbs_19 _ (List.mem_of_getElem? (i := 22) (by decide +kernel))
theorem kb_455 : Cond.selects RX5 yX5_reason yX5_reason ∈ wsL_law := kbs_19 _ (List.mem_of_getElem? (i := 23) (by decide +kernel))
theorem kb_456 : Cond.code yX5_reason cX5_reason 3 (some .int) ∈ wsL_law := kbs_20 _ (List.mem_of_getElem? (i := 0) (by decide +kernel))
theorem kb_457 : Cond.fieldLink RX5 156 "FieldStore$Act" "reason" "I" ∈ wsL_law := kbs_20 _ (List.mem_of_getElem? (i := 1) (by decide +kernel))
theorem kb_458 : Cond.methodLink RX5 152 yX5_refusedAt ∈ wsL_law := kbs_20 _ (List.mem_of_getElem? (i := 2) (by decide +kernel))
theorem kb_459 : Cond.instanceMethod yX5_refusedAt ∈ wsL_law := kbs_20 _ (List.mem_of_getElem? (i := 3) (by decide +kernel))
theorem kb_460 : Cond.selects RX5 yX5_refusedAt yX5_refusedAt ∈ wsL_law := kbs_20 _ (List.mem_of_getElem? (i := 4) (by decide +kernel))
theorem kb_461 : Cond.code yX5_refusedAt cX5_refusedAt 4 (some (.object "FieldStore$Act")) ∈ wsL_law := kbs_20 _ (List.mem_of_getElem? (i := 5) (by decide +kernel))
theorem kb_462 : Cond.classLink RX5 157 "FieldStore$Act" ∈ wsL_law := kbs_20 _ (List.mem_of_getElem? (i := 6) (by decide +kernel))
theorem kb_463 : Cond.methodLink RL 142 yL_refused ∈ wsL_law := kbs_20 _ (List.mem_of_getElem? (i := 7) (by decide +kernel))
theorem kb_464 : Cond.static yL_refused ∈ wsL_law := kbs_20 _ (List.mem_of_getElem? (i := 8) (by decide +kernel))
theorem kb_465 : Cond.codeWith yL_refused cL_refused 4 (some .int) [(0, 6, 7, 22)] ∈ wsL_law := kbs_20 _ (List.mem_of_getElem? (i := 9) (by decide +kernel))
theorem kb_466 : Cond.methodLink RL 80 yX5_refusedValue ∈ wsL_law := kbs_20 _ (List.mem_of_getElem? (i := 10) (by decide +kernel))
theorem kb_467 : Cond.instanceMethod yX5_refusedValue ∈ wsL_law := kbs_20 _ (List.mem_of_getElem? (i := 11) (by decide +kernel))
theorem kb_468 : Cond.selects RX5 yX5_refusedValue yX5_refusedValue ∈ wsL_law := kbs_20 _ (List.mem_of_getElem? (i := 12) (by decide +kernel))
theorem kb_469 : Cond.code yX5_refusedValue cX5_refusedValue 3 (some .int) ∈ wsL_law := kbs_20 _ (List.mem_of_getElem? (i := 13) (by decide +kernel))
theorem kb_470 : Cond.methodLink RL 161 yL_alike ∈ wsL_law := kbs_20 _ (List.mem_of_getElem? (i := 14) (by decide +kernel))
theorem kb_471 : Cond.static yL_alike ∈ wsL_law := kbs_20 _ (List.mem_of_getElem? (i := 15) (by decide +kernel))
theorem kb_472 : Cond.code yL_alike cL_alike 6 (some .boolean) ∈ wsL_law := kbs_20 _ (List.mem_of_getElem? (i := 16) rfl)
theorem kb_473 : Cond.methodLink RL 145 yX5_done ∈ wsL_law := kbs_20 _ (List.mem_of_getElem? (i := 17) (by decide +kernel))
theorem kb_474 : Cond.instanceMethod yX5_done ∈ wsL_law := kbs_20 _ (List.mem_of_getElem? (i := 18) (by decide +kernel))
theorem kb_475 : Cond.selects RX5 yX5_done yX5_done ∈ wsL_law := kbs_20 _ (List.mem_of_getElem? (i := 19) (by decide +kernel))
theorem kb_476 : Cond.code yX5_done cX5_done 1 (some .int) ∈ wsL_law := kbs_20 _ (List.mem_of_getElem? (i := 20) (by decide +kernel))
theorem kb_477 : Cond.methodLink RL 165 yL_holdsAll ∈ wsL_law := kbs_20 _ (List.mem_of_getElem? (i := 21) (by decide +kernel))
theorem kb_478 : Cond.static yL_holdsAll ∈ wsL_law := kbs_20 _ (List.mem_of_getElem? (i := 22) (by decide +kernel))
theorem kb_479 : Cond.code yL_holdsAll cL_holdsAll 11 (some .boolean) ∈ wsL_law := kbs_20 _ (List.mem_of_getElem? (i := 23) rfl)
theorem kb_480 : Cond.methodLink RL 168 yL_fresh ∈ wsL_law := kbs_21 _ (List.mem_of_getElem? (i := 0) (by decide +kernel))
theorem kb_481 : Cond.static yL_fresh ∈ wsL_law := kbs_21 _ (List.mem_of_getElem? (i := 1) (by decide +kernel))
theorem kb_482 : Cond.code yL_fresh cL_fresh 13 (some .boolean) ∈ wsL_law := kbs_21 _ (List.mem_of_getElem? (i := 2) rfl)
end
section
/-! THE WORLD BY NAMES: what each thing holds (C), where it lies (L); one row an instruction over it -/
abbrev kT : Type := Nat × Nat × Nat
abbrev kC : Type := kT → Option va_E
abbrev kL : Type := kT → Nat
def kup {α : Type} (f : kT → α) (t : kT) (v : α) : kT → α := fun x => if x = t then v else f x
theorem kup_s {α : Type} {f : kT → α} {t : kT} {v : α} : kup f t v t = v := if_pos rfl
theorem kup_n {α : Type} {f : kT → α} {t x : kT} {v : α} (h : x ≠ t) : kup f t v x = f x := if_neg h
/-- the tables' numbers: classes and slots; array classes; the shared empty row of lists -/
abbrev kE : Type := va_G × (Nat → ClassId) × Nat × Nat
abbrev kty (κ : Nat → ClassId) : List (ClassId × FieldType) := [(κ 0, .int), (κ 1, .boolean), (κ 2, .long), (κ 3, .object "java/lang/Object"), (κ 4, .object RX2), (κ 5, .object RX1)]
def kp (E : kE) (A : Nat → Prop) (C : kC) (L : kL) (H : Heap) : Prop :=
  (∀ t e, C t = some e → va_at E.1 vwCl (L t, e) H ∧ A (L t)) ∧ ∀ t u e f, C t = some e → C u = some f → L t = L u → t = u
theorem kp.upd {E : kE} {A : Nat → Prop} {C : kC} {L : kL} {H H1 : Heap} {t : kT} {e0 e : va_E} (h : kp E A C L H) (ht : C t = some e0) (he : va_at E.1 vwCl (L t, e) H1) (oq : ∀ q : Nat, q ≠ L t → H1[q]? = H[q]?) : kp E A (kup C t (some e)) L H1 := by
  refine ⟨fun x f hx => ?_, fun x u f g hx hu hL => ?_⟩
  · by_cases hxt : x = t
    · subst hxt
      rw [kup_s] at hx
      cases hx
      exact ⟨he, (h.1 x e0 ht).2⟩
    · rw [kup_n hxt] at hx
      have hk := h.1 x f hx
      exact ⟨hk.1.kept (oq _ (fun z => hxt (h.2 x t f e0 hx ht z))), hk.2⟩
  · have key : ∀ (z : kT) (f : va_E), kup C t (some e) z = some f → ∃ f', C z = some f' := by
      intro z f hz
      by_cases hzt : z = t
      · subst hzt; exact ⟨e0, ht⟩
      · rw [kup_n hzt] at hz; exact ⟨f, hz⟩
    obtain ⟨f', hf'⟩ := key x f hx
    obtain ⟨g', hg'⟩ := key u g hu
    exact h.2 x u f' g' hf' hg' hL
theorem kp.new {E : kE} {A : Nat → Prop} {C : kC} {L : kL} {H H1 : Heap} {e : va_E} (t : kT) (h : kp E A C L H) (he : va_at E.1 vwCl (H.size, e) H1) (hA : A H.size) (oq : ∀ q : Nat, q < H.size → H1[q]? = H[q]?) : kp E A (kup C t (some e)) (kup L t H.size) H1 := by
  have key : ∀ (z : kT) (f : va_E), z ≠ t → kup C t (some e) z = some f → C z = some f ∧ L z < H.size := by
    intro z f hz hf
    rw [kup_n hz] at hf
    exact ⟨hf, (h.1 z f hf).1.lt⟩
  refine ⟨fun x f hx => ?_, fun x u f g hx hu hL => ?_⟩
  · by_cases hxt : x = t
    · subst hxt
      rw [kup_s] at hx
      cases hx
      rw [kup_s]
      exact ⟨he, hA⟩
    · obtain ⟨h1, h2⟩ := key x f hxt hx
      have hk := h.1 x f h1
      rw [kup_n hxt]
      exact ⟨hk.1.kept (oq _ h2), hk.2⟩
  · by_cases hxt : x = t
    · by_cases hut : u = t
      · rw [hxt, hut]
      · obtain ⟨h1, h2⟩ := key u g hut hu
        rw [hxt, kup_s, kup_n hut] at hL
        omega
    · obtain ⟨h1, h2⟩ := key x f hxt hx
      by_cases hut : u = t
      · rw [hut, kup_s, kup_n hxt] at hL
        omega
      · obtain ⟨h3, h4⟩ := key u g hut hu
        rw [kup_n hxt, kup_n hut] at hL
        exact h.2 x u f g h1 h3 hL
theorem kp.kept {E : kE} {A : Nat → Prop} {C : kC} {L : kL} {H H1 : Heap} (h : kp E A C L H) (oq : ∀ q : Nat, q < H.size → H1[q]? = H[q]?) : kp E A C L H1 :=
  ⟨fun t e ht => ⟨(h.1 t e ht).1.kept (oq _ (h.1 t e ht).1.lt), (h.1 t e ht).2⟩, h.2⟩
theorem kp.less {E : kE} {A : Nat → Prop} {C C' : kC} {L : kL} {H : Heap} (h : kp E A C L H) (hC : ∀ t e, C' t = some e → C t = some e) : kp E A C' L H :=
  ⟨fun t e ht => h.1 t e (hC t e ht), fun t u e f h1 h2 => h.2 t u e f (hC t e h1) (hC u f h2)⟩
theorem kp.P {E : kE} {A : Nat → Prop} {C : kC} {L : kL} {H : Heap} (h : kp E A C L H) {t : kT} {e : va_E} (ht : C t = some e) : va_P E.1 vwCl [(L t, e)] H := by
  intro k q hk
  cases k with
  | zero => cases hk; exact (h.1 t e ht).1
  | succ k => simp at hk
theorem kp.D {E : kE} {A : Nat → Prop} {C : kC} {L : kL} {H : Heap} (h : kp E A C L H) {t : kT} {e : va_E} (ht : C t = some e) : va_D A [(L t, e)] := by
  refine ⟨fun i j p q hi hj _ => ?_, fun k q hk => ?_⟩
  · cases i with
    | zero => cases j with
      | zero => rfl
      | succ j => simp at hj
    | succ i => simp at hi
  · cases k with
    | zero => cases hk; exact (h.1 t e ht).2
    | succ k => simp at hk
/-! what surrounds every call -/
def kTh (A : Nat → Prop) (U : State) : Prop := vx_Zq Bundle.tN "UNASSIGNED_STACK" Bundle.steD A U U.heap ∧ vx_Zq Bundle.tN "SUPPRESSED_SENTINEL" Bundle.listD A U U.heap
def kJd (dE mi : Nat) (A : Nat → Prop) (U : State) : Prop := va_Z "java/util/ArrayList" "DEFAULTCAPACITY_EMPTY_ELEMENTDATA" "[Ljava/lang/Object;" (.ref dE) A U U.heap ∧ va_T (.object "java/lang/Object") dE 0 (fun _ => .null) A U U.heap ∧ va_Mi "[Ljava/lang/Object;" mi U ∧ va_Dc U
def kStr : List (Nat × String) := [(37, "the central store is full"), (129, "the device made no such job"), (206, "no such job"), (209, "no such device"), (211, "no such place"), (213, "the device does not hold the job"), (215, "an argument is out of range")]
def kSt (U : State) : Prop := ∀ q ∈ kStr, ∃ sa : Nat, vk_R RX5 q.1 q.2 sa U
def kCas : List (String × String) := [(RX0, "java/lang/Object"), (RX1, "java/lang/Object"), (RX2, "java/lang/Object"), (RX3, "java/lang/Object"), (RX4, "java/lang/Object"), ("java/lang/IndexOutOfBoundsException", "java/lang/IndexOutOfBoundsException"), ("java/lang/IllegalArgumentException", "java/lang/IllegalArgumentException"), ("java/lang/IllegalStateException", "java/lang/IllegalStateException")]
def kNst : List (String × Nat × MethodName × String) := [(RX5, 26, yX1_init, RX5), (RX1, 68, yX2_init, RX5), (RX1, 77, yX4_init, RX5), (RX3, 9, yX2_init, RX5), (RX4, 17, yX2_init, RX5)]
def kNcs : List (String × String) := [("java/lang/IndexOutOfBoundsException", "java/lang/IllegalArgumentException"), ("java/lang/IndexOutOfBoundsException", "java/lang/IllegalStateException"), ("java/lang/IllegalArgumentException", "java/lang/IndexOutOfBoundsException"), ("java/lang/IllegalArgumentException", "java/lang/IllegalStateException"), ("java/lang/IllegalStateException", "java/lang/IndexOutOfBoundsException"), ("java/lang/IllegalStateException", "java/lang/IllegalArgumentException")]
def kDcl : List String := ["java/lang/RuntimeException", "java/lang/Exception", "java/lang/Throwable"]
def kNw (U : State) : Prop := (va_AO "java/lang/Object" U ∧ va_AO RX2 U ∧ va_AO RX1 U) ∧ (∀ q ∈ kCas, va_Nw (.castable q.1 q.2) U) ∧ (∀ q ∈ kNst, va_Nw (.methodLinkNest q.1 q.2.1 q.2.2.1 q.2.2.2) U) ∧ (∀ q ∈ kNcs, va_Nc q.1 q.2 U) ∧ (∀ q ∈ kDcl, va_Nw (.declares (Bundle.initS q)) U)
def kAm (E : kE) (A : Nat → Prop) (U : State) : Prop := va_K E.1 vwCl (kty E.2.1) U ∧ (∀ q : Nat, U.heap.size ≤ q → A q) ∧ kTh A U ∧ kJd E.2.2.1 E.2.2.2 A U ∧ kSt U ∧ kNw U
theorem kTh.to {A : Nat → Prop} {u U : State} (hvm : u.vm.Alike U.vm) (hq : ∀ a : Nat, a < u.heap.size → ¬ A a → U.heap[a]? = u.heap[a]?) (h : kTh A u) : kTh A U := ⟨(vx_Zq.moved hvm h.1).kept hq, (vx_Zq.moved hvm h.2).kept hq⟩
theorem kJd.to {dE mi : Nat} {A : Nat → Prop} {u U : State} (hvm : u.vm.Alike U.vm) (hq : ∀ a : Nat, a < u.heap.size → ¬ A a → U.heap[a]? = u.heap[a]?) (h : kJd dE mi A u) : kJd dE mi A U := by
  obtain ⟨h1, h2, h3, h4⟩ := h
  exact ⟨(va_Z.moved hvm h1).kept hq, (va_T.moved hvm h2).kept hq, h3.moved hvm, h4.moved hvm⟩
theorem kAm.warm {E : kE} {A : Nat → Prop} {s U : State} (hW : s.WarmedH U.vm) (hz : s.heap.size ≤ U.heap.size) (hq : ∀ a : Nat, a < s.heap.size → ¬ A a → U.heap[a]? = s.heap[a]?) (h : kAm E A s) : kAm E A U := by
  obtain ⟨h1, h2, h3, h4, h5, ⟨a1, a2, a3⟩, b, d, f, g⟩ := h
  refine ⟨va_K.moved hW.alike h1, fun q hq' => h2 q (Nat.le_trans hz hq'), h3.to hW.alike hq, h4.to hW.alike hq, fun q hq' => ?_, ⟨a1.moved hW.alike, a2.moved hW.alike, a3.moved hW.alike⟩, fun q hq' => va_Nw.warmC hW (b q hq'), fun q hq' => va_Nw.warmM hW (d q hq'), fun q hq' => (f q hq').moved hW.alike, fun q hq' => va_Nw.warmD hW (g q hq')⟩
  obtain ⟨sa, hsa⟩ := h5 q hq'
  exact ⟨sa, hsa.warm hW⟩
theorem kAm.same {E : kE} {A : Nat → Prop} {u U : State} (hv : u.vm = U.vm) (hh : u.heap = U.heap) (h : kAm E A u) : kAm E A U := by
  obtain ⟨h1, h2, h3, h4, h5, ⟨a1, a2, a3⟩, b, d, f, g⟩ := h
  have hal : u.vm.Alike U.vm := by rw [hv]; exact Vm.Alike.refl _
  have hq : ∀ a : Nat, a < u.heap.size → ¬ A a → U.heap[a]? = u.heap[a]? := fun a _ _ => by rw [hh]
  refine ⟨va_K.moved hal h1, fun q hq' => h2 q (by rw [hh]; exact hq'), h3.to hal hq, h4.to hal hq, fun q hq' => ?_, ⟨a1.moved hal, a2.moved hal, a3.moved hal⟩, fun q hq' => va_Nw.same rfl hv (b q hq'), fun q hq' => va_Nw.same rfl hv (d q hq'), fun q hq' => (f q hq').moved hal, fun q hq' => va_Nw.same rfl hv (g q hq')⟩
  obtain ⟨sa, hsa⟩ := h5 q hq'
  exact ⟨sa, hsa.same hv.symm⟩
/-! a place in a method -/
abbrev kG : Type := Program × Launch × Env × Room × State × MethodId × Array Value × List Frame × Method × Code × (State → Prop) × Nat
def kRm (Γ : kG) : Room := Γ.2.2.2.1
def kNl (Γ : kG) : Nat := Γ.2.2.2.2.2.2.2.2.2.2.2
def kMe (Γ : kG) : Method := Γ.2.2.2.2.2.2.2.2.1
def klk : List (Nat × Value) → Nat → Option Value
  | [], _ => none
  | (j, v) :: r, i => if j = i then some v else klk r i
theorem klk_mem : ∀ {lo : List (Nat × Value)} {i : Nat} {v : Value}, klk lo i = some v → (i, v) ∈ lo
  | [], _, _, h => by cases h
  | (j, w) :: r, i, v, h => by
    unfold klk at h
    by_cases e : j = i
    · rw [if_pos e] at h
      cases h
      rw [e]
      exact List.mem_cons_self
    · rw [if_neg e] at h
      exact List.mem_cons_of_mem _ (klk_mem h)
def kall : List (Nat × Value) → List (Nat × Value) → Prop
  | [], _ => True
  | (j, v) :: r, lo => klk lo j = some v ∧ kall r lo
theorem kall_mem : ∀ {l lo : List (Nat × Value)}, kall l lo → ∀ q ∈ l, q ∈ lo
  | [], _, _, _, h => by cases h
  | (j, v) :: r, lo, h, q, hq => by
    rcases List.mem_cons.mp hq with e | e
    · rw [e]; exact klk_mem h.1
    · exact kall_mem h.2 q e
/-- the locals with one set -/
def kst (lo : List (Nat × Value)) (i : Nat) (v : Value) : List (Nat × Value) := (i, v) :: lo.filter (fun q => !(q.1 == i) && !(q.1 + 1 == i && q.2.category == 2))
def kW (Γ : kG) (E : kE) (A : Nat → Prop) (C : kC) (L : kL) (cells slots : Nat) (pc : Nat) (lo : List (Nat × Value)) (st : List Value) : Prop :=
  match Γ with
  | (p, l, e, R, s, m, args, below, meth, c, Q, nL) => ∀ (H : Heap) (locs : List Loc) (ls : Array Slot), kp E A C L H → va_S A s.heap H locs → lv_has ls nL lo → W p l e R s m args below meth c H locs cells slots Q (F0 m pc ls st)
/-- what is known of a method that runs: the machine, its code, the words of the tables, what surrounds it -/
def kX (Γ : kG) (E : kE) (A : Nat → Prop) (cc : ByteArray) (own : String) : Prop :=
  match Γ with
  | (p, l, e, R, s, m, args, below, meth, c, Q, nL) => p.tables.exec = Jvm.exec ∧ c.code = cc ∧ c.maxLocals = nL ∧ s.vm.findClass own = some m.cls ∧ (∀ w ∈ wsL_law, w.before args s = true) ∧ kAm E A s ∧ meth.locks = false ∧ l.stackTraces = false

section KR
variable {Γ : kG} {E : kE} {A : Nat → Prop} {cc : ByteArray} {own : String} {C : kC} {L : kL} {cells slots pc : Nat} {lo : List (Nat × Value)} {rest : List Value}

theorem k_iconst (X : kX Γ E A cc own) {n : Int} {v : Int32} (hdg : decode cc pc = .ok (.iconst n, 1)) (hv : Int32.ofInt n = v) (k : kW Γ E A C L cells slots (pc + 1) lo (.int v :: rest)) : kW Γ E A C L cells slots pc lo rest := by
  obtain ⟨p, l, e, R, s, m, args, below, meth, c, Q, nL⟩ := Γ
  obtain ⟨hx, hb, hml, hown, hts, hAm, hlk, htr⟩ := X
  exact fun H locs ls hp hS hl => lv_iconst hx hb hdg hv (k H locs ls hp hS hl)
theorem k_bipush (X : kX Γ E A cc own) {n : Int} {v : Int32} (hdg : decode cc pc = .ok (.bipush n, 2)) (hv : (Int8.ofInt n).toInt32 = v) (k : kW Γ E A C L cells slots (pc + 2) lo (.int v :: rest)) : kW Γ E A C L cells slots pc lo rest := by
  obtain ⟨p, l, e, R, s, m, args, below, meth, c, Q, nL⟩ := Γ
  obtain ⟨hx, hb, hml, hown, hts, hAm, hlk, htr⟩ := X
  exact fun H locs ls hp hS hl => lv_bipush hx hb hdg hv (k H locs ls hp hS hl)
theorem k_sipush (X : kX Γ E A cc own) {n : Int} {v : Int32} (hdg : decode cc pc = .ok (.sipush n, 3)) (hv : (Int16.ofInt n).toInt32 = v) (k : kW Γ E A C L cells slots (pc + 3) lo (.int v :: rest)) : kW Γ E A C L cells slots pc lo rest := by
  obtain ⟨p, l, e, R, s, m, args, below, meth, c, Q, nL⟩ := Γ
  obtain ⟨hx, hb, hml, hown, hts, hAm, hlk, htr⟩ := X
  exact fun H locs ls hp hS hl => lv_sipush hx hb hdg hv (k H locs ls hp hS hl)
theorem k_lconst (X : kX Γ E A cc own) {n : Fin 2} {v : Int64} (hdg : decode cc pc = .ok (.lconst n, 1)) (hv : Int64.ofNat (n : Nat) = v) (k : kW Γ E A C L cells slots (pc + 1) lo (.long v :: rest)) : kW Γ E A C L cells slots pc lo rest := by
  obtain ⟨p, l, e, R, s, m, args, below, meth, c, Q, nL⟩ := Γ
  obtain ⟨hx, hb, hml, hown, hts, hAm, hlk, htr⟩ := X
  exact fun H locs ls hp hS hl => lv_lconst hx hb hdg hv (k H locs ls hp hS hl)
theorem k_iadd (X : kX Γ E A cc own) {x y : Int32} (hdg : decode cc pc = .ok (.iadd, 1)) (k : kW Γ E A C L cells slots (pc + 1) lo (.int (x + y) :: rest)) : kW Γ E A C L cells slots pc lo (.int y :: .int x :: rest) := by
  obtain ⟨p, l, e, R, s, m, args, below, meth, c, Q, nL⟩ := Γ
  obtain ⟨hx, hb, hml, hown, hts, hAm, hlk, htr⟩ := X
  exact fun H locs ls hp hS hl => lv_iadd hx hb hdg (k H locs ls hp hS hl)
theorem k_isub (X : kX Γ E A cc own) {x y : Int32} (hdg : decode cc pc = .ok (.isub, 1)) (k : kW Γ E A C L cells slots (pc + 1) lo (.int (x - y) :: rest)) : kW Γ E A C L cells slots pc lo (.int y :: .int x :: rest) := by
  obtain ⟨p, l, e, R, s, m, args, below, meth, c, Q, nL⟩ := Γ
  obtain ⟨hx, hb, hml, hown, hts, hAm, hlk, htr⟩ := X
  exact fun H locs ls hp hS hl => lv_isub hx hb hdg (k H locs ls hp hS hl)
theorem k_imul (X : kX Γ E A cc own) {x y : Int32} (hdg : decode cc pc = .ok (.imul, 1)) (k : kW Γ E A C L cells slots (pc + 1) lo (.int (x * y) :: rest)) : kW Γ E A C L cells slots pc lo (.int y :: .int x :: rest) := by
  obtain ⟨p, l, e, R, s, m, args, below, meth, c, Q, nL⟩ := Γ
  obtain ⟨hx, hb, hml, hown, hts, hAm, hlk, htr⟩ := X
  exact fun H locs ls hp hS hl => lv_imul hx hb hdg (k H locs ls hp hS hl)
theorem k_iand (X : kX Γ E A cc own) {x y : Int32} (hdg : decode cc pc = .ok (.iand, 1)) (k : kW Γ E A C L cells slots (pc + 1) lo (.int (x &&& y) :: rest)) : kW Γ E A C L cells slots pc lo (.int y :: .int x :: rest) := by
  obtain ⟨p, l, e, R, s, m, args, below, meth, c, Q, nL⟩ := Γ
  obtain ⟨hx, hb, hml, hown, hts, hAm, hlk, htr⟩ := X
  exact fun H locs ls hp hS hl => lv_iand hx hb hdg (k H locs ls hp hS hl)
theorem k_ishr (X : kX Γ E A cc own) {x y : Int32} (hdg : decode cc pc = .ok (.ishr, 1)) (k : kW Γ E A C L cells slots (pc + 1) lo (.int (x >>> (y &&& 31)) :: rest)) : kW Γ E A C L cells slots pc lo (.int y :: .int x :: rest) := by
  obtain ⟨p, l, e, R, s, m, args, below, meth, c, Q, nL⟩ := Γ
  obtain ⟨hx, hb, hml, hown, hts, hAm, hlk, htr⟩ := X
  exact fun H locs ls hp hS hl => lv_ishr hx hb hdg (k H locs ls hp hS hl)
theorem k_i2l (X : kX Γ E A cc own) {x : Int32} (hdg : decode cc pc = .ok (.i2l, 1)) (k : kW Γ E A C L cells slots (pc + 1) lo (.long x.toInt64 :: rest)) : kW Γ E A C L cells slots pc lo (.int x :: rest) := by
  obtain ⟨p, l, e, R, s, m, args, below, meth, c, Q, nL⟩ := Γ
  obtain ⟨hx, hb, hml, hown, hts, hAm, hlk, htr⟩ := X
  exact fun H locs ls hp hS hl => lv_i2l hx hb hdg rfl (k H locs ls hp hS hl)
theorem k_lcmp (X : kX Γ E A cc own) {x y : Int64} (hdg : decode cc pc = .ok (.lcmp, 1)) (k : kW Γ E A C L cells slots (pc + 1) lo (.int (lg_cmp x y) :: rest)) : kW Γ E A C L cells slots pc lo (.long y :: .long x :: rest) := by
  obtain ⟨p, l, e, R, s, m, args, below, meth, c, Q, nL⟩ := Γ
  obtain ⟨hx, hb, hml, hown, hts, hAm, hlk, htr⟩ := X
  exact fun H locs ls hp hS hl => W.lcmp hx hb hdg (k H locs ls hp hS hl)
theorem k_dup (X : kX Γ E A cc own) {va : Value} (hdg : decode cc pc = .ok (.dup, 1)) (hva : va.category = 1) (k : kW Γ E A C L cells slots (pc + 1) lo (va :: va :: rest)) : kW Γ E A C L cells slots pc lo (va :: rest) := by
  obtain ⟨p, l, e, R, s, m, args, below, meth, c, Q, nL⟩ := Γ
  obtain ⟨hx, hb, hml, hown, hts, hAm, hlk, htr⟩ := X
  exact fun H locs ls hp hS hl => lv_dup hx hb hdg hva (k H locs ls hp hS hl)
theorem k_dup_x1 (X : kX Γ E A cc own) {va vb : Value} (hdg : decode cc pc = .ok (.dup_x1, 1)) (hva : va.category = 1) (hvb : vb.category = 1) (k : kW Γ E A C L cells slots (pc + 1) lo (va :: vb :: va :: rest)) : kW Γ E A C L cells slots pc lo (va :: vb :: rest) := by
  obtain ⟨p, l, e, R, s, m, args, below, meth, c, Q, nL⟩ := Γ
  obtain ⟨hx, hb, hml, hown, hts, hAm, hlk, htr⟩ := X
  exact fun H locs ls hp hS hl => lv_dup_x1 hx hb hdg hva hvb (k H locs ls hp hS hl)
theorem k_dup2 (X : kX Γ E A cc own) {va vb : Value} (hdg : decode cc pc = .ok (.dup2, 1)) (hva : va.category = 1) (hvb : vb.category = 1) (k : kW Γ E A C L cells slots (pc + 1) lo (va :: vb :: va :: vb :: rest)) : kW Γ E A C L cells slots pc lo (va :: vb :: rest) := by
  obtain ⟨p, l, e, R, s, m, args, below, meth, c, Q, nL⟩ := Γ
  obtain ⟨hx, hb, hml, hown, hts, hAm, hlk, htr⟩ := X
  exact fun H locs ls hp hS hl => lv_dup2_11 hx hb hdg hva hvb (k H locs ls hp hS hl)
theorem k_pop (X : kX Γ E A cc own) {va : Value} (hdg : decode cc pc = .ok (.pop, 1)) (hva : va.category = 1) (k : kW Γ E A C L cells slots (pc + 1) lo rest) : kW Γ E A C L cells slots pc lo (va :: rest) := by
  obtain ⟨p, l, e, R, s, m, args, below, meth, c, Q, nL⟩ := Γ
  obtain ⟨hx, hb, hml, hown, hts, hAm, hlk, htr⟩ := X
  exact fun H locs ls hp hS hl => lv_pop hx hb hdg hva (k H locs ls hp hS hl)
theorem k_null (X : kX Γ E A cc own) (hdg : decode cc pc = .ok (.aconst_null, 1)) (k : kW Γ E A C L cells slots (pc + 1) lo (.null :: rest)) : kW Γ E A C L cells slots pc lo rest := by
  obtain ⟨p, l, e, R, s, m, args, below, meth, c, Q, nL⟩ := Γ
  obtain ⟨hx, hb, hml, hown, hts, hAm, hlk, htr⟩ := X
  exact fun H locs ls hp hS hl => lv_null hx hb hdg (k H locs ls hp hS hl)
theorem k_iload_n (X : kX Γ E A cc own) {k : Fin 4} {i : Nat} {x : Int32} (hdg : decode cc pc = .ok (.iload_n k, 1)) (hi : (k : Nat) = i) (hk : klk lo i = some (.int x)) (k9 : kW Γ E A C L cells slots (pc + 1) lo (.int x :: rest)) : kW Γ E A C L cells slots pc lo rest := by
  obtain ⟨p, l, e, R, s, m, args, below, meth, c, Q, nL⟩ := Γ
  obtain ⟨hx, hb, hml, hown, hts, hAm, hlk, htr⟩ := X
  exact fun H locs ls hp hS hl => lv_iload_n hx hb hdg hi (hl.2.2 _ (klk_mem hk)) (k9 H locs ls hp hS hl)
theorem k_iload (X : kX Γ E A cc own) {i : Nat} {x : Int32} (hdg : decode cc pc = .ok (.iload i, 2)) (hk : klk lo i = some (.int x)) (k9 : kW Γ E A C L cells slots (pc + 2) lo (.int x :: rest)) : kW Γ E A C L cells slots pc lo rest := by
  obtain ⟨p, l, e, R, s, m, args, below, meth, c, Q, nL⟩ := Γ
  obtain ⟨hx, hb, hml, hown, hts, hAm, hlk, htr⟩ := X
  exact fun H locs ls hp hS hl => lv_iload hx hb hdg (hl.2.2 _ (klk_mem hk)) (k9 H locs ls hp hS hl)
theorem k_aload_n (X : kX Γ E A cc own) {k : Fin 4} {i : Nat} {x : Nat} (hdg : decode cc pc = .ok (.aload_n k, 1)) (hi : (k : Nat) = i) (hk : klk lo i = some (.ref x)) (k9 : kW Γ E A C L cells slots (pc + 1) lo (.ref x :: rest)) : kW Γ E A C L cells slots pc lo rest := by
  obtain ⟨p, l, e, R, s, m, args, below, meth, c, Q, nL⟩ := Γ
  obtain ⟨hx, hb, hml, hown, hts, hAm, hlk, htr⟩ := X
  exact fun H locs ls hp hS hl => lv_aload_n hx hb hdg hi (hl.2.2 _ (klk_mem hk)) (k9 H locs ls hp hS hl)
theorem k_aload (X : kX Γ E A cc own) {i : Nat} {x : Nat} (hdg : decode cc pc = .ok (.aload i, 2)) (hk : klk lo i = some (.ref x)) (k9 : kW Γ E A C L cells slots (pc + 2) lo (.ref x :: rest)) : kW Γ E A C L cells slots pc lo rest := by
  obtain ⟨p, l, e, R, s, m, args, below, meth, c, Q, nL⟩ := Γ
  obtain ⟨hx, hb, hml, hown, hts, hAm, hlk, htr⟩ := X
  exact fun H locs ls hp hS hl => lv_aload hx hb hdg (hl.2.2 _ (klk_mem hk)) (k9 H locs ls hp hS hl)
theorem k_aload_nN (X : kX Γ E A cc own) {k : Fin 4} {i : Nat} (hdg : decode cc pc = .ok (.aload_n k, 1)) (hi : (k : Nat) = i) (hk : klk lo i = some (.null)) (k9 : kW Γ E A C L cells slots (pc + 1) lo (.null :: rest)) : kW Γ E A C L cells slots pc lo rest := by
  obtain ⟨p, l, e, R, s, m, args, below, meth, c, Q, nL⟩ := Γ
  obtain ⟨hx, hb, hml, hown, hts, hAm, hlk, htr⟩ := X
  exact fun H locs ls hp hS hl => lv_aload_nN hx hb hdg hi (hl.2.2 _ (klk_mem hk)) (k9 H locs ls hp hS hl)
theorem k_aloadN (X : kX Γ E A cc own) {i : Nat} (hdg : decode cc pc = .ok (.aload i, 2)) (hk : klk lo i = some (.null)) (k9 : kW Γ E A C L cells slots (pc + 2) lo (.null :: rest)) : kW Γ E A C L cells slots pc lo rest := by
  obtain ⟨p, l, e, R, s, m, args, below, meth, c, Q, nL⟩ := Γ
  obtain ⟨hx, hb, hml, hown, hts, hAm, hlk, htr⟩ := X
  exact fun H locs ls hp hS hl => lv_aloadN hx hb hdg (hl.2.2 _ (klk_mem hk)) (k9 H locs ls hp hS hl)
theorem k_istore_n (X : kX Γ E A cc own) {k : Fin 4} {i : Nat} {x : Int32} (hdg : decode cc pc = .ok (.istore_n k, 1)) (hi : (k : Nat) = i) (hn : i < kNl Γ) (k9 : kW Γ E A C L cells slots (pc + 1) (kst lo i (.int x)) rest) : kW Γ E A C L cells slots pc lo (.int x :: rest) := by
  obtain ⟨p, l, e, R, s, m, args, below, meth, c, Q, nL⟩ := Γ
  obtain ⟨hx, hb, hml, hown, hts, hAm, hlk, htr⟩ := X
  exact fun H locs ls hp hS hl => lv_istore_n hx hb hdg hi hl hn rfl (fun ls hl => k9 H locs ls hp hS hl)
theorem k_istore (X : kX Γ E A cc own) {i : Nat} {x : Int32} (hdg : decode cc pc = .ok (.istore i, 2)) (hn : i < kNl Γ) (k9 : kW Γ E A C L cells slots (pc + 2) (kst lo i (.int x)) rest) : kW Γ E A C L cells slots pc lo (.int x :: rest) := by
  obtain ⟨p, l, e, R, s, m, args, below, meth, c, Q, nL⟩ := Γ
  obtain ⟨hx, hb, hml, hown, hts, hAm, hlk, htr⟩ := X
  exact fun H locs ls hp hS hl => lv_istore hx hb hdg hl hn rfl (fun ls hl => k9 H locs ls hp hS hl)
theorem k_astore_n (X : kX Γ E A cc own) {k : Fin 4} {i : Nat} {x : Nat} (hdg : decode cc pc = .ok (.astore_n k, 1)) (hi : (k : Nat) = i) (hn : i < kNl Γ) (k9 : kW Γ E A C L cells slots (pc + 1) (kst lo i (.ref x)) rest) : kW Γ E A C L cells slots pc lo (.ref x :: rest) := by
  obtain ⟨p, l, e, R, s, m, args, below, meth, c, Q, nL⟩ := Γ
  obtain ⟨hx, hb, hml, hown, hts, hAm, hlk, htr⟩ := X
  exact fun H locs ls hp hS hl => lv_astore_n hx hb hdg hi hl hn rfl (fun ls hl => k9 H locs ls hp hS hl)
theorem k_astore (X : kX Γ E A cc own) {i : Nat} {x : Nat} (hdg : decode cc pc = .ok (.astore i, 2)) (hn : i < kNl Γ) (k9 : kW Γ E A C L cells slots (pc + 2) (kst lo i (.ref x)) rest) : kW Γ E A C L cells slots pc lo (.ref x :: rest) := by
  obtain ⟨p, l, e, R, s, m, args, below, meth, c, Q, nL⟩ := Γ
  obtain ⟨hx, hb, hml, hown, hts, hAm, hlk, htr⟩ := X
  exact fun H locs ls hp hS hl => lv_astore hx hb hdg hl hn rfl (fun ls hl => k9 H locs ls hp hS hl)
theorem k_astore_nN (X : kX Γ E A cc own) {k : Fin 4} {i : Nat} (hdg : decode cc pc = .ok (.astore_n k, 1)) (hi : (k : Nat) = i) (hn : i < kNl Γ) (k9 : kW Γ E A C L cells slots (pc + 1) (kst lo i (.null)) rest) : kW Γ E A C L cells slots pc lo (.null :: rest) := by
  obtain ⟨p, l, e, R, s, m, args, below, meth, c, Q, nL⟩ := Γ
  obtain ⟨hx, hb, hml, hown, hts, hAm, hlk, htr⟩ := X
  exact fun H locs ls hp hS hl => lv_astore_nN hx hb hdg hi hl hn rfl (fun ls hl => k9 H locs ls hp hS hl)
theorem k_astoreN (X : kX Γ E A cc own) {i : Nat} (hdg : decode cc pc = .ok (.astore i, 2)) (hn : i < kNl Γ) (k9 : kW Γ E A C L cells slots (pc + 2) (kst lo i (.null)) rest) : kW Γ E A C L cells slots pc lo (.null :: rest) := by
  obtain ⟨p, l, e, R, s, m, args, below, meth, c, Q, nL⟩ := Γ
  obtain ⟨hx, hb, hml, hown, hts, hAm, hlk, htr⟩ := X
  exact fun H locs ls hp hS hl => lv_astoreN hx hb hdg hl hn rfl (fun ls hl => k9 H locs ls hp hS hl)
theorem k_iinc (X : kX Γ E A cc own) {i : Nat} {n : Int} {x v : Int32} (hdg : decode cc pc = .ok (.iinc i n, 3)) (hk : klk lo i = some (.int x)) (hv : x + Int32.ofInt n = v) (hn : i < kNl Γ) (k9 : kW Γ E A C L cells slots (pc + 3) (kst lo i (.int v)) rest) : kW Γ E A C L cells slots pc lo rest := by
  obtain ⟨p, l, e, R, s, m, args, below, meth, c, Q, nL⟩ := Γ
  obtain ⟨hx, hb, hml, hown, hts, hAm, hlk, htr⟩ := X
  intro H locs ls hp hS hl
  obtain ⟨k, hk⟩ := List.getElem?_of_mem (klk_mem hk)
  exact lv_iinc hx hb hdg hl hk hv hn rfl (fun ls hl => k9 H locs ls hp hS hl)
/-- other words for the locals -/
theorem k_lo {lo' : List (Nat × Value)} (h : kall lo' lo) (k9 : kW Γ E A C L cells slots pc lo' rest) : kW Γ E A C L cells slots pc lo rest := by
  obtain ⟨p, l, e, R, s, m, args, below, meth, c, Q, nL⟩ := Γ
  exact fun H locs ls hp hS hl => k9 H locs ls hp hS ⟨hl.1, hl.2.1, fun q hq => hl.2.2 q (kall_mem h q hq)⟩
theorem k_wide {k n : Nat} (h1 : cells ≤ k) (h2 : slots ≤ n) (k9 : kW Γ E A C L k n pc lo rest) : kW Γ E A C L cells slots pc lo rest := by
  obtain ⟨p, l, e, R, s, m, args, below, meth, c, Q, nL⟩ := Γ
  exact fun H locs ls hp hS hl => W.widen h1 h2 (k9 H locs ls hp hS hl)
theorem k_C {C' : kC} (h : C' = C) (k9 : kW Γ E A C' L cells slots pc lo rest) : kW Γ E A C L cells slots pc lo rest := h ▸ k9
theorem k_less {C' : kC} (h : ∀ t e, C' t = some e → C t = some e) (k9 : kW Γ E A C' L cells slots pc lo rest) : kW Γ E A C L cells slots pc lo rest := by
  obtain ⟨p, l, e, R, s, m, args, below, meth, c, Q, nL⟩ := Γ
  exact fun H locs ls hp hS hl => k9 H locs ls (hp.less h) hS hl
theorem k_topi {x : Int32} (k9 : ∀ y : Int32, y = x → kW Γ E A C L cells slots pc lo (.int y :: rest)) : kW Γ E A C L cells slots pc lo (.int x :: rest) := k9 x rfl
theorem k_goto (X : kX Γ E A cc own) {off : Int} {tgt : Nat} (hdg : decode cc pc = .ok (.goto off, 3)) (ht : (pc : Int) + off = (tgt : Int)) (k9 : kW Γ E A C L cells slots tgt lo rest) : kW Γ E A C L cells slots pc lo rest := by
  obtain ⟨p, l, e, R, s, m, args, below, meth, c, Q, nL⟩ := Γ
  obtain ⟨hx, hb, hml, hown, hts, hAm, hlk, htr⟩ := X
  exact fun H locs ls hp hS hl => lv_goto hx hb hdg ht (k9 H locs ls hp hS hl)
theorem k_if_eq (X : kX Γ E A cc own) {x : Int32} {off : Int} {tgt : Nat} (hdg : decode cc pc = .ok (.ifCond .eq off, 3)) (ht : (pc : Int) + off = (tgt : Int)) (kt : x = 0 → kW Γ E A C L cells slots tgt lo rest) (kf : ¬ x = 0 → kW Γ E A C L cells slots (pc + 3) lo rest) : kW Γ E A C L cells slots pc lo (.int x :: rest) := by
  obtain ⟨p, l, e, R, s, m, args, below, meth, c, Q, nL⟩ := Γ
  obtain ⟨hx, hb, hml, hown, hts, hAm, hlk, htr⟩ := X
  exact fun H locs ls hp hS hl => lv_if_eq hx hb hdg ht (fun z => kt z H locs ls hp hS hl) (fun z => kf z H locs ls hp hS hl)
theorem k_if_ne (X : kX Γ E A cc own) {x : Int32} {off : Int} {tgt : Nat} (hdg : decode cc pc = .ok (.ifCond .ne off, 3)) (ht : (pc : Int) + off = (tgt : Int)) (kt : ¬ x = 0 → kW Γ E A C L cells slots tgt lo rest) (kf : x = 0 → kW Γ E A C L cells slots (pc + 3) lo rest) : kW Γ E A C L cells slots pc lo (.int x :: rest) := by
  obtain ⟨p, l, e, R, s, m, args, below, meth, c, Q, nL⟩ := Γ
  obtain ⟨hx, hb, hml, hown, hts, hAm, hlk, htr⟩ := X
  exact fun H locs ls hp hS hl => lv_if_ne hx hb hdg ht (fun z => kt z H locs ls hp hS hl) (fun z => kf z H locs ls hp hS hl)
theorem k_if_lt (X : kX Γ E A cc own) {x : Int32} {off : Int} {tgt : Nat} (hdg : decode cc pc = .ok (.ifCond .lt off, 3)) (ht : (pc : Int) + off = (tgt : Int)) (kt : x < 0 → kW Γ E A C L cells slots tgt lo rest) (kf : ¬ x < 0 → kW Γ E A C L cells slots (pc + 3) lo rest) : kW Γ E A C L cells slots pc lo (.int x :: rest) := by
  obtain ⟨p, l, e, R, s, m, args, below, meth, c, Q, nL⟩ := Γ
  obtain ⟨hx, hb, hml, hown, hts, hAm, hlk, htr⟩ := X
  exact fun H locs ls hp hS hl => lv_if_lt hx hb hdg ht (fun z => kt z H locs ls hp hS hl) (fun z => kf z H locs ls hp hS hl)
theorem k_if_ge (X : kX Γ E A cc own) {x : Int32} {off : Int} {tgt : Nat} (hdg : decode cc pc = .ok (.ifCond .ge off, 3)) (ht : (pc : Int) + off = (tgt : Int)) (kt : 0 ≤ x → kW Γ E A C L cells slots tgt lo rest) (kf : ¬ 0 ≤ x → kW Γ E A C L cells slots (pc + 3) lo rest) : kW Γ E A C L cells slots pc lo (.int x :: rest) := by
  obtain ⟨p, l, e, R, s, m, args, below, meth, c, Q, nL⟩ := Γ
  obtain ⟨hx, hb, hml, hown, hts, hAm, hlk, htr⟩ := X
  exact fun H locs ls hp hS hl => lv_if_ge hx hb hdg ht (fun z => kt z H locs ls hp hS hl) (fun z => kf z H locs ls hp hS hl)
theorem k_if_gt (X : kX Γ E A cc own) {x : Int32} {off : Int} {tgt : Nat} (hdg : decode cc pc = .ok (.ifCond .gt off, 3)) (ht : (pc : Int) + off = (tgt : Int)) (kt : 0 < x → kW Γ E A C L cells slots tgt lo rest) (kf : ¬ 0 < x → kW Γ E A C L cells slots (pc + 3) lo rest) : kW Γ E A C L cells slots pc lo (.int x :: rest) := by
  obtain ⟨p, l, e, R, s, m, args, below, meth, c, Q, nL⟩ := Γ
  obtain ⟨hx, hb, hml, hown, hts, hAm, hlk, htr⟩ := X
  exact fun H locs ls hp hS hl => lv_if_gt hx hb hdg ht (fun z => kt z H locs ls hp hS hl) (fun z => kf z H locs ls hp hS hl)
theorem k_if_le (X : kX Γ E A cc own) {x : Int32} {off : Int} {tgt : Nat} (hdg : decode cc pc = .ok (.ifCond .le off, 3)) (ht : (pc : Int) + off = (tgt : Int)) (kt : x ≤ 0 → kW Γ E A C L cells slots tgt lo rest) (kf : ¬ x ≤ 0 → kW Γ E A C L cells slots (pc + 3) lo rest) : kW Γ E A C L cells slots pc lo (.int x :: rest) := by
  obtain ⟨p, l, e, R, s, m, args, below, meth, c, Q, nL⟩ := Γ
  obtain ⟨hx, hb, hml, hown, hts, hAm, hlk, htr⟩ := X
  exact fun H locs ls hp hS hl => lv_if_le hx hb hdg ht (fun z => kt z H locs ls hp hS hl) (fun z => kf z H locs ls hp hS hl)
theorem k_icmp_eq (X : kX Γ E A cc own) {x y : Int32} {off : Int} {tgt : Nat} (hdg : decode cc pc = .ok (.if_icmp .eq off, 3)) (ht : (pc : Int) + off = (tgt : Int)) (kt : x = y → kW Γ E A C L cells slots tgt lo rest) (kf : ¬ x = y → kW Γ E A C L cells slots (pc + 3) lo rest) : kW Γ E A C L cells slots pc lo (.int y :: .int x :: rest) := by
  obtain ⟨p, l, e, R, s, m, args, below, meth, c, Q, nL⟩ := Γ
  obtain ⟨hx, hb, hml, hown, hts, hAm, hlk, htr⟩ := X
  exact fun H locs ls hp hS hl => lv_icmp_eq hx hb hdg ht (fun z => kt z H locs ls hp hS hl) (fun z => kf z H locs ls hp hS hl)
theorem k_icmp_ne (X : kX Γ E A cc own) {x y : Int32} {off : Int} {tgt : Nat} (hdg : decode cc pc = .ok (.if_icmp .ne off, 3)) (ht : (pc : Int) + off = (tgt : Int)) (kt : ¬ x = y → kW Γ E A C L cells slots tgt lo rest) (kf : x = y → kW Γ E A C L cells slots (pc + 3) lo rest) : kW Γ E A C L cells slots pc lo (.int y :: .int x :: rest) := by
  obtain ⟨p, l, e, R, s, m, args, below, meth, c, Q, nL⟩ := Γ
  obtain ⟨hx, hb, hml, hown, hts, hAm, hlk, htr⟩ := X
  exact fun H locs ls hp hS hl => lv_icmp_ne hx hb hdg ht (fun z => kt z H locs ls hp hS hl) (fun z => kf z H locs ls hp hS hl)
theorem k_icmp_lt (X : kX Γ E A cc own) {x y : Int32} {off : Int} {tgt : Nat} (hdg : decode cc pc = .ok (.if_icmp .lt off, 3)) (ht : (pc : Int) + off = (tgt : Int)) (kt : x < y → kW Γ E A C L cells slots tgt lo rest) (kf : ¬ x < y → kW Γ E A C L cells slots (pc + 3) lo rest) : kW Γ E A C L cells slots pc lo (.int y :: .int x :: rest) := by
  obtain ⟨p, l, e, R, s, m, args, below, meth, c, Q, nL⟩ := Γ
  obtain ⟨hx, hb, hml, hown, hts, hAm, hlk, htr⟩ := X
  exact fun H locs ls hp hS hl => lv_icmp_lt hx hb hdg ht (fun z => kt z H locs ls hp hS hl) (fun z => kf z H locs ls hp hS hl)
theorem k_icmp_ge (X : kX Γ E A cc own) {x y : Int32} {off : Int} {tgt : Nat} (hdg : decode cc pc = .ok (.if_icmp .ge off, 3)) (ht : (pc : Int) + off = (tgt : Int)) (kt : y ≤ x → kW Γ E A C L cells slots tgt lo rest) (kf : ¬ y ≤ x → kW Γ E A C L cells slots (pc + 3) lo rest) : kW Γ E A C L cells slots pc lo (.int y :: .int x :: rest) := by
  obtain ⟨p, l, e, R, s, m, args, below, meth, c, Q, nL⟩ := Γ
  obtain ⟨hx, hb, hml, hown, hts, hAm, hlk, htr⟩ := X
  exact fun H locs ls hp hS hl => lv_icmp_ge hx hb hdg ht (fun z => kt z H locs ls hp hS hl) (fun z => kf z H locs ls hp hS hl)
theorem k_icmp_gt (X : kX Γ E A cc own) {x y : Int32} {off : Int} {tgt : Nat} (hdg : decode cc pc = .ok (.if_icmp .gt off, 3)) (ht : (pc : Int) + off = (tgt : Int)) (kt : y < x → kW Γ E A C L cells slots tgt lo rest) (kf : ¬ y < x → kW Γ E A C L cells slots (pc + 3) lo rest) : kW Γ E A C L cells slots pc lo (.int y :: .int x :: rest) := by
  obtain ⟨p, l, e, R, s, m, args, below, meth, c, Q, nL⟩ := Γ
  obtain ⟨hx, hb, hml, hown, hts, hAm, hlk, htr⟩ := X
  exact fun H locs ls hp hS hl => lv_icmp_gt hx hb hdg ht (fun z => kt z H locs ls hp hS hl) (fun z => kf z H locs ls hp hS hl)
theorem k_icmp_le (X : kX Γ E A cc own) {x y : Int32} {off : Int} {tgt : Nat} (hdg : decode cc pc = .ok (.if_icmp .le off, 3)) (ht : (pc : Int) + off = (tgt : Int)) (kt : x ≤ y → kW Γ E A C L cells slots tgt lo rest) (kf : ¬ x ≤ y → kW Γ E A C L cells slots (pc + 3) lo rest) : kW Γ E A C L cells slots pc lo (.int y :: .int x :: rest) := by
  obtain ⟨p, l, e, R, s, m, args, below, meth, c, Q, nL⟩ := Γ
  obtain ⟨hx, hb, hml, hown, hts, hAm, hlk, htr⟩ := X
  exact fun H locs ls hp hS hl => lv_icmp_le hx hb hdg ht (fun z => kt z H locs ls hp hS hl) (fun z => kf z H locs ls hp hS hl)
theorem k_acmp_eq (X : kX Γ E A cc own) {rx ry : Nat} {off : Int} {tgt : Nat} (hdg : decode cc pc = .ok (.if_acmp .eq off, 3)) (ht : (pc : Int) + off = (tgt : Int)) (kt : rx = ry → kW Γ E A C L cells slots tgt lo rest) (kf : ¬ rx = ry → kW Γ E A C L cells slots (pc + 3) lo rest) : kW Γ E A C L cells slots pc lo (.ref ry :: .ref rx :: rest) := by
  obtain ⟨p, l, e, R, s, m, args, below, meth, c, Q, nL⟩ := Γ
  obtain ⟨hx, hb, hml, hown, hts, hAm, hlk, htr⟩ := X
  exact fun H locs ls hp hS hl => lv_acmp_eq (rx := some rx) (ry := some ry) hx hb hdg ht (fun z => kt (Option.some.inj z) H locs ls hp hS hl) (fun z => kf (fun y => z (congrArg some y)) H locs ls hp hS hl)
theorem k_acmp_ne (X : kX Γ E A cc own) {rx ry : Nat} {off : Int} {tgt : Nat} (hdg : decode cc pc = .ok (.if_acmp .ne off, 3)) (ht : (pc : Int) + off = (tgt : Int)) (kt : ¬ rx = ry → kW Γ E A C L cells slots tgt lo rest) (kf : rx = ry → kW Γ E A C L cells slots (pc + 3) lo rest) : kW Γ E A C L cells slots pc lo (.ref ry :: .ref rx :: rest) := by
  obtain ⟨p, l, e, R, s, m, args, below, meth, c, Q, nL⟩ := Γ
  obtain ⟨hx, hb, hml, hown, hts, hAm, hlk, htr⟩ := X
  exact fun H locs ls hp hS hl => lv_acmp_ne (rx := some rx) (ry := some ry) hx hb hdg ht (fun z => kt (fun y => z (congrArg some y)) H locs ls hp hS hl) (fun z => kf (Option.some.inj z) H locs ls hp hS hl)
theorem k_ifnonnull (X : kX Γ E A cc own) {x : Nat} {off : Int} {tgt : Nat} (hdg : decode cc pc = .ok (.ifnonnull off, 3)) (ht : (pc : Int) + off = (tgt : Int)) (k9 : kW Γ E A C L cells slots tgt lo rest) : kW Γ E A C L cells slots pc lo (.ref x :: rest) := by
  obtain ⟨p, l, e, R, s, m, args, below, meth, c, Q, nL⟩ := Γ
  obtain ⟨hx, hb, hml, hown, hts, hAm, hlk, htr⟩ := X
  exact fun H locs ls hp hS hl => lv_ifnonnull hx hb hdg ht (k9 H locs ls hp hS hl)
theorem k_ifnonnullN (X : kX Γ E A cc own) {off : Int} (hdg : decode cc pc = .ok (.ifnonnull off, 3)) (k9 : kW Γ E A C L cells slots (pc + 3) lo rest) : kW Γ E A C L cells slots pc lo (.null :: rest) := by
  obtain ⟨p, l, e, R, s, m, args, below, meth, c, Q, nL⟩ := Γ
  obtain ⟨hx, hb, hml, hown, hts, hAm, hlk, htr⟩ := X
  exact fun H locs ls hp hS hl => lv_ifnonnullN hx hb hdg (k9 H locs ls hp hS hl)
theorem k_ifnull (X : kX Γ E A cc own) {x : Nat} {off : Int} (hdg : decode cc pc = .ok (.ifnull off, 3)) (k9 : kW Γ E A C L cells slots (pc + 3) lo rest) : kW Γ E A C L cells slots pc lo (.ref x :: rest) := by
  obtain ⟨p, l, e, R, s, m, args, below, meth, c, Q, nL⟩ := Γ
  obtain ⟨hx, hb, hml, hown, hts, hAm, hlk, htr⟩ := X
  exact fun H locs ls hp hS hl => lv_ifnull hx hb hdg (k9 H locs ls hp hS hl)
theorem k_ifnullN (X : kX Γ E A cc own) {off : Int} {tgt : Nat} (hdg : decode cc pc = .ok (.ifnull off, 3)) (ht : (pc : Int) + off = (tgt : Int)) (k9 : kW Γ E A C L cells slots tgt lo rest) : kW Γ E A C L cells slots pc lo (.null :: rest) := by
  obtain ⟨p, l, e, R, s, m, args, below, meth, c, Q, nL⟩ := Γ
  obtain ⟨hx, hb, hml, hown, hts, hAm, hlk, htr⟩ := X
  exact fun H locs ls hp hS hl => lv_ifnullN hx hb hdg ht (k9 H locs ls hp hS hl)
theorem k_ldc (X : kX Γ E A cc own) {index : Nat} {v : Int32} (hc : Cond.constant own index v ∈ wsL_law) (hdg : decode cc pc = .ok (.ldc index, 2)) (k9 : kW Γ E A C L cells slots (pc + 2) lo (.int v :: rest)) : kW Γ E A C L cells slots pc lo rest := by
  obtain ⟨p, l, e, R, s, m, args, below, meth, c, Q, nL⟩ := Γ
  obtain ⟨hx, hb, hml, hown, hts, hAm, hlk, htr⟩ := X
  exact fun H locs ls hp hS hl => lv_ldc hx hb hown (hts _ hc) hdg (k9 H locs ls hp hS hl)
theorem k_get0 (X : kX Γ E A cc own) {t : kT} {a : Nat} {ci : Nat} {fs : List Value} (hC : C t = some (.inr (ci, fs))) {q : vw_C} (hc : vwCl[ci]? = some q) (hin : ∀ w ∈ u_ws q.1 q.2.1 q.2.2, w ∈ wsL_law) (k : Nat) {v : Value} {index : Nat} {ref : String} (hk : k < q.2.2) (hlink : Cond.fieldLink own index ref (q.2.1 k).2.1 (q.2.1 k).2.2.1 ∈ wsL_law) (hsame : ref = (q.2.1 k).1 ∨ Cond.sameField ref (q.2.1 k).1 (q.2.1 k).2.1 (q.2.1 k).2.2.1 ∈ wsL_law) (ha : L t = a) (hv : fs[k]? = some v) (hdg : decode cc pc = .ok (.getfield index, 3)) (k9 : kW Γ E A C L cells slots (pc + 3) lo (v :: rest)) : kW Γ E A C L cells slots pc lo (.ref a :: rest) := by
  obtain ⟨p, l, e, R, s, m, args, below, meth, c, Q, nL⟩ := Γ
  obtain ⟨hx, hb, hml, hown, hts, hAm, hlk, htr⟩ := X
  intro H locs ls hp hS hl
  subst ha
  refine va_get hx hb hts hin hown hAm.1 (hp.P hC) 0 rfl hc k hk (hts _ hlink) (fun x h => ?_) hv hdg (k9 H locs ls hp hS hl)
  rcases hsame with h9 | h9
  · rw [h9]; exact h
  · exact u_same (hts _ h9) x h
theorem kt_put {s : State} {args : Array Value} {E : kE} {A : Nat → Prop} (hts : ∀ w ∈ wsL_law, w.before args s = true) (hAm : kAm E A s) {C : kC} {L : kL} {H : Heap} (hp : kp E A C L H) {t : kT} {ci : Nat} {fs : List Value} (hC : C t = some (.inr (ci, fs))) {q : vw_C} (hc : vwCl[ci]? = some q) (hin : ∀ w ∈ u_ws q.1 q.2.1 q.2.2, w ∈ wsL_law) (ty0 : Nat → FieldType) (hty : ∀ k, k < q.2.2 → parseFieldDescriptor (q.2.1 k).2.2.1 = some (ty0 k)) (hnm : ∀ a, a < q.2.2 → ∀ b, b < q.2.2 → a ≠ b → (q.2.1 a).2.1 ≠ (q.2.1 b).2.1) (k : Nat) (hk : k < q.2.2) {v : Value} (hl : k < fs.length) :
    ∃ (cell : Cell) (cf : ClassId) (kf : Class) (fi : Nat) (f : Field), H[L t]? = some cell ∧ cell.cls = E.1.1 ci ∧ cell.vm = .none ∧ s.fieldFound? (q.2.1 k).1 (q.2.1 k).2.1 (q.2.1 k).2.2.1 = some (cf, kf, fi, f) ∧ f.slot < cell.slots.size ∧ f.isStatic = false ∧
      (∀ H1 : Heap, H1[L t]? = some (cell.setSlot f.slot v) → (∀ q : Nat, q ≠ L t → H1[q]? = H[q]?) → kp E A (kup C t (some (.inr (ci, fs.set k v)))) L H1) := by
  have hap := va_apart (own := "") hts hin ty0 hty hnm hAm.1 hc
  obtain ⟨r, h1, cell, q1, q2, q3, q4⟩ := (hp.1 t _ hC).1
  have hr : r = q := Option.some.inj (h1.symm.trans hc)
  subst hr
  obtain ⟨hS, hfc, kC, hkC, hkind⟩ := hAm.1.1 ci _ hc
  obtain ⟨cf, kf, fi, f, hi, hsl⟩ := hS k hk
  have hst := (u_facts hfc hkC (u_lays hts hin hk) hi).1
  refine ⟨cell, cf, kf, fi, f, q1, q2, q3, hi, by rw [hsl]; exact k2_hasslot (q4 k hk), hst, fun H1 e1 oq => ?_⟩
  rw [hsl] at e1
  exact hp.upd hC ⟨_, hc, t_OB.to (V := updV (vp_V fs) k v) ⟨_, e1, q2, q3, t_set q4 hap hk v⟩ (fun j _ => vp_updV_set hl v j)⟩ oq
theorem k_put0 (X : kX Γ E A cc own) {t : kT} {a : Nat} {ci : Nat} {fs : List Value} (hC : C t = some (.inr (ci, fs))) {q : vw_C} (hc : vwCl[ci]? = some q) (hin : ∀ w ∈ u_ws q.1 q.2.1 q.2.2, w ∈ wsL_law) (ty0 : Nat → FieldType) (hty : ∀ k, k < q.2.2 → parseFieldDescriptor (q.2.1 k).2.2.1 = some (ty0 k)) (hnm : ∀ a, a < q.2.2 → ∀ b, b < q.2.2 → a ≠ b → (q.2.1 a).2.1 ≠ (q.2.1 b).2.1) (k : Nat) {v : Value} {index : Nat} {ref : String} (hk : k < q.2.2) (hlink : Cond.fieldLink own index ref (q.2.1 k).2.1 (q.2.1 k).2.2.1 ∈ wsL_law) (hsame : ref = (q.2.1 k).1 ∨ Cond.sameField ref (q.2.1 k).1 (q.2.1 k).2.1 (q.2.1 k).2.2.1 ∈ wsL_law) (hfin : (q.2.1 k).2.2.2 = false ∨ ((kMe Γ).name = "<init>" ∧ (q.2.1 k).1 = own)) (ha : L t = a) (hn : narrow (ty0 k) v = v) (hfit : fits (ty0 k) v = true) (hl9 : k < fs.length) (hdg : decode cc pc = .ok (.putfield index, 3)) (k9 : kW Γ E A (kup C t (some (.inr (ci, fs.set k v)))) L cells slots (pc + 3) lo rest) : kW Γ E A C L cells slots pc lo (v :: .ref a :: rest) := by
  obtain ⟨p, l, e, R, s, m, args, below, meth, c, Q, nL⟩ := Γ
  obtain ⟨hx, hb, hml, hown, hts, hAm, hlk, htr⟩ := X
  intro H locs ls hp hS hl
  subst ha
  obtain ⟨cell, cf, kf, fi, f, g1, g2, g3, hi, g4, hst, key⟩ := kt_put hts hAm hp hC hc hin ty0 hty hnm k hk (v := v) hl9
  obtain ⟨-, hfc, kC, hkC, hkind⟩ := hAm.1.1 ci _ hc
  have hi2 : s.fieldFound? ref (q.2.1 k).2.1 (q.2.1 k).2.2.1 = some (cf, kf, fi, f) := by
    rcases hsame with h9 | h9
    · rw [h9]; exact hi
    · exact u_same (hts _ h9) _ hi
  have hlay := hts _ (hin _ (u_in_lay hk))
  unfold u_lay at hlay
  by_cases hf : (q.2.1 k).2.2.2 = true
  · rw [if_pos hf] at hlay
    have hF : meth.name = "<init>" ∧ (q.2.1 k).1 = own := by
      rcases hfin with h9 | h9
      · rw [hf] at h9; cases h9
      · exact h9
    have hcf : m.cls = cf := by
      obtain ⟨_, _, c', _, _, _, -, -, hf', -, -, -, hown2, -⟩ := Cond.laysFinal_spec hlay
      have e1 : c' = cf := by have := hi.symm.trans hf'; simp at this; exact this.1.symm
      rw [hF.2] at hown2
      rw [← e1]; exact Option.some.inj (hown.symm.trans hown2)
    have h6 := u_fits hfc hkC hkind (u_lays hts hin hk) hi (hty k hk) hn hfit
    refine W.putFinK hx hb hown (hts _ hlink) hi2 hst hcf hF.1 (by rw [g2]; exact h6) g1 g3 g4 rfl rfl hdg fun H' e1 e2 e3 => ?_
    exact k9 H' _ ls (key H' e1 e3) (hS.put e2 e3 (hp.1 t _ hC).2) hl
  · rw [if_neg hf] at hlay
    have h6 := u_store hfc hkC hkind hlay hi (hty k hk) hn hfit
    refine W.putK hx hb (f := f) ⟨hown, hts _ hlink, ⟨_, _, _, hi2⟩, hst⟩ (by rw [g2]; exact h6) g1 g3 g4 rfl rfl hdg fun H' e1 e2 e3 => ?_
    exact k9 H' _ ls (key H' e1 e3) (hS.put e2 e3 (hp.1 t _ hC).2) hl
end KR
end
section
theorem kGood : wsL_law.all goodWord = true := by decide +kernel
theorem kGI {ws : List Cond} (h : ∀ w ∈ ws, w ∈ wsL_law) : GoodIn wsL_law ws := fun w hw => ⟨h w hw, good_of_word (List.all_eq_true.mp kGood w (h w hw))⟩
section KR2
variable {Γ : kG} {E : kE} {A : Nat → Prop} {cc : ByteArray} {own : String} {C : kC} {L : kL} {cells slots pc : Nat} {lo : List (Nat × Value)} {rest : List Value}

theorem k_new0 (X : kX Γ E A cc own) (t : kT) {ci index : Nat} {q : vw_C} (hc : vwCl[ci]? = some q) (hin : ∀ w ∈ u_ws q.1 q.2.1 q.2.2, w ∈ wsL_law) (ty : Nat → FieldType) (hty : ∀ k, k < q.2.2 → parseFieldDescriptor (q.2.1 k).2.2.1 = some (ty k)) (hlink : Cond.classLink own index q.1 ∈ wsL_law) (hinst : Cond.instantiable q.1 q.2.2 ∈ wsL_law) (hini : Cond.initialized q.1 ∈ wsL_law) {fs : List Value} (hfs : ∀ j, j < q.2.2 → defaultValue (ty j) = vp_V fs j) (hdg : decode cc pc = .ok (.new index, 3)) (hcells : cells + 1 ≤ (kRm Γ).cells) (hslots : slots + q.2.2 ≤ (kRm Γ).slots)
    (k9 : ∀ q9 : Nat, kW Γ E A (kup C t (some (.inr (ci, fs)))) (kup L t q9) (cells + 1) (slots + q.2.2) (pc + 3) lo (.ref q9 :: rest)) : kW Γ E A C L cells slots pc lo rest := by
  obtain ⟨p, l, e, R, s, m, args, below, meth, c, Q, nL⟩ := Γ
  obtain ⟨hx, hb, hml, hown, hts, hAm, hlk, htr⟩ := X
  intro H locs ls hp hS hl
  have hKn := hAm.1.1 ci _ hc
  refine W.newcK hx hb hown (hts _ hlink) (hts _ hinst) (hts _ hini) rfl hdg hcells hslots hKn.2.1 rfl fun H1 kC hkC e1 z1 o1 => ?_
  exact k9 H.size H1 _ ls (hp.new t ⟨_, hc, (u_born ty hts hin hKn hkC e1 hty).to hfs⟩ (hAm.2.1 _ hS.1) o1) ⟨Nat.le_trans hS.1 (by omega), fun x h1 h2 => (o1 x (Nat.lt_of_lt_of_le h1 hS.1)).trans (hS.2.1 x h1 h2), hS.2.2⟩ hl
theorem kt_newa (X : kX Γ E A cc own) (t : kT) {i : Nat} {ty : FieldType} {atype : ArrayType} (hty : newarray.typeOf atype = ty) (hi : (kty E.2.1)[i]? = some (E.2.1 i, ty)) (harr : Cond.arrayClass ty ∈ wsL_law) (hpr : ∀ C, ty ≠ .object C) {n : Int32} {N : Nat} (a0 : vp_A) (ha : ∀ cA : ClassId, vp_cell cA a0 = arrV cA N (fun _ => defaultValue ty)) (hn : ¬ n < 0) (hN : n.toNatClampNeg = N) (hbytes : N * componentBytes ty ≤ 536870912) (hdg : decode cc pc = .ok (.newarray atype, 2)) (hcells : cells + 1 ≤ (kRm Γ).cells) (hslots : slots + N ≤ (kRm Γ).slots)
    (k9 : ∀ q9 : Nat, kW Γ E A (kup C t (some (.inl (E.2.1 i, a0)))) (kup L t q9) (cells + 1) (slots + N) (pc + 2) lo (.ref q9 :: rest)) : kW Γ E A C L cells slots pc lo (.int n :: rest) := by
  obtain ⟨p, l, e, R, s, m, args, below, meth, c, Q, nL⟩ := Γ
  obtain ⟨hx, hb, hml, hown, hts, hAm, hlk, htr⟩ := X
  intro H locs ls hp hS hl
  subst hty
  refine va_newaK hx hb (hts _ harr) rfl hdg rfl hn hN hbytes hcells hslots rfl fun H1 cA e1 z1 o1 hAr hNm => ?_
  have hRA := (hAm.1.2 i _ hi).2
  have hcA : cA = E.2.1 i := by
    have h9 : s.vm.findClass ("[" ++ (newarray.typeOf atype).toString) = some (E.2.1 i) := by
      unfold va_RA at hRA
      cases atype <;> exact hRA
    exact Option.some.inj (hNm.symm.trans h9)
  subst hcA
  exact k9 H.size H1 _ ls (hp.new t (show H1[H.size]? = some (vp_cell _ _) by rw [ha]; exact e1) (hAm.2.1 _ hS.1) o1) ⟨Nat.le_trans hS.1 (by omega), fun x h1 h2 => (o1 x (Nat.lt_of_lt_of_le h1 hS.1)).trans (hS.2.1 x h1 h2), hS.2.2⟩ hl
theorem k_newi (X : kX Γ E A cc own) (t : kT) {n : Int32} (N : Nat) (harr : Cond.arrayClass .int ∈ wsL_law) (hn : ¬ n < 0) (hN : n.toNatClampNeg = N) (hbytes : N * 4 ≤ 536870912) (hdg : decode cc pc = .ok (.newarray .int, 2)) (hcells : cells + 1 ≤ (kRm Γ).cells) (hslots : slots + N ≤ (kRm Γ).slots)
    (k9 : ∀ q9 : Nat, kW Γ E A (kup C t (some (.inl (E.2.1 0, N, .inl (fun _ => 0))))) (kup L t q9) (cells + 1) (slots + N) (pc + 2) lo (.ref q9 :: rest)) : kW Γ E A C L cells slots pc lo (.int n :: rest) :=
  kt_newa X t (i := 0) (ty := .int) rfl rfl harr (fun _ h => by cases h) (N, .inl (fun _ => 0)) (fun _ => rfl) hn hN hbytes hdg hcells hslots k9
theorem k_newz (X : kX Γ E A cc own) (t : kT) {n : Int32} (N : Nat) (harr : Cond.arrayClass .boolean ∈ wsL_law) (hn : ¬ n < 0) (hN : n.toNatClampNeg = N) (hbytes : N * 1 ≤ 536870912) (hdg : decode cc pc = .ok (.newarray .boolean, 2)) (hcells : cells + 1 ≤ (kRm Γ).cells) (hslots : slots + N ≤ (kRm Γ).slots)
    (k9 : ∀ q9 : Nat, kW Γ E A (kup C t (some (.inl (E.2.1 1, N, .inl (fun _ => 0))))) (kup L t q9) (cells + 1) (slots + N) (pc + 2) lo (.ref q9 :: rest)) : kW Γ E A C L cells slots pc lo (.int n :: rest) :=
  kt_newa X t (i := 1) (ty := .boolean) rfl rfl harr (fun _ h => by cases h) (N, .inl (fun _ => 0)) (fun _ => rfl) hn hN hbytes hdg hcells hslots k9
theorem k_newj (X : kX Γ E A cc own) (t : kT) {n : Int32} (N : Nat) (harr : Cond.arrayClass .long ∈ wsL_law) (hn : ¬ n < 0) (hN : n.toNatClampNeg = N) (hbytes : N * 8 ≤ 536870912) (hdg : decode cc pc = .ok (.newarray .long, 2)) (hcells : cells + 1 ≤ (kRm Γ).cells) (hslots : slots + N ≤ (kRm Γ).slots)
    (k9 : ∀ q9 : Nat, kW Γ E A (kup C t (some (.inl (E.2.1 2, N, .inr (.inl (fun _ => 0)))))) (kup L t q9) (cells + 1) (slots + N) (pc + 2) lo (.ref q9 :: rest)) : kW Γ E A C L cells slots pc lo (.int n :: rest) :=
  kt_newa X t (i := 2) (ty := .long) rfl rfl harr (fun _ h => by cases h) (N, .inr (.inl (fun _ => 0))) (fun _ => rfl) hn hN hbytes hdg hcells hslots k9
/-- a row of references: 3 of Object, 4 of Fields, 5 of Device -/
theorem k_newq (X : kX Γ E A cc own) (t : kT) (i : Nat) {nm : String} {index : Nat} {n : Int32} (N : Nat) (hi : (kty E.2.1)[i]? = some (E.2.1 i, .object nm)) (hAO : nm = "java/lang/Object" ∨ nm = RX2 ∨ nm = RX1) (hlink : Cond.classLink own index nm ∈ wsL_law) (hn : ¬ n < 0) (hN : n.toNatClampNeg = N) (hbytes : N * 4 ≤ 536870912) (hdg : decode cc pc = .ok (.anewarray index, 3)) (hcells : cells + 1 ≤ (kRm Γ).cells) (hslots : slots + N ≤ (kRm Γ).slots)
    (k9 : ∀ q9 : Nat, kW Γ E A (kup C t (some (.inl (E.2.1 i, N, .inr (.inr (.inr (.inr (fun _ => none)))))))) (kup L t q9) (cells + 1) (slots + N) (pc + 3) lo (.ref q9 :: rest)) : kW Γ E A C L cells slots pc lo (.int n :: rest) := by
  obtain ⟨p, l, e, R, s, m, args, below, meth, c, Q, nL⟩ := Γ
  obtain ⟨hx, hb, hml, hown, hts, hAm, hlk, htr⟩ := X
  intro H locs ls hp hS hl
  subst hN
  have hover : va_AO nm s := by
    rcases hAO with h | h | h
    · rw [h]; exact hAm.2.2.2.2.2.1.1
    · rw [h]; exact hAm.2.2.2.2.2.1.2.1
    · rw [h]; exact hAm.2.2.2.2.2.1.2.2
  refine W.anew hx hb hown (hts _ hlink) (va_AO.use hover) rfl hdg rfl hn hbytes hcells hslots fun cA kA comp f1 f2 f3 f4 => ?_
  generalize hH1 : H.push ({ cls := cA, slots := Array.replicate n.toNatClampNeg .null, vm := .none } : Cell) = H1
  have z1 : H1.size = H.size + 1 := by rw [← hH1, Array.size_push]
  have e1 : H1[H.size]? = some (arrV cA n.toNatClampNeg (fun _ => .null)) := by rw [← hH1, Array.getElem?_push_size, ← arrV_new]
  have o1 : ∀ q : Nat, q < H.size → H1[q]? = H[q]? := fun q hq => by rw [← hH1, Array.getElem?_push, if_neg (Nat.ne_of_lt hq)]
  have hRA := (hAm.1.2 i _ hi).2
  have hcA : cA = E.2.1 i := by
    obtain ⟨-, -, -, -, -, h4⟩ := hRA
    exact Option.some.inj (f1.symm.trans h4)
  subst hcA
  exact k9 H.size H1 _ ls (hp.new t (show H1[H.size]? = some (vp_cell _ _) by rw [vp_cell_q]; exact e1) (hAm.2.1 _ hS.1) o1) ⟨Nat.le_trans hS.1 (by omega), fun x h1 h2 => (o1 x (Nat.lt_of_lt_of_le h1 hS.1)).trans (hS.2.1 x h1 h2), hS.2.2⟩ hl
theorem k_iald (X : kX Γ E A cc own) {t : kT} {a : Nat} {n : Nat} {f : Nat → Int32} {i : Int32} (hC : C t = some (.inl (E.2.1 0, n, .inl f))) (ha : L t = a) (hin : vp_in i n) (hdg : decode cc pc = .ok (.iaload, 1)) (k9 : kW Γ E A C L cells slots (pc + 1) lo (.int (f i.toNatClampNeg) :: rest)) : kW Γ E A C L cells slots pc lo (.int i :: .ref a :: rest) := by
  obtain ⟨p, l, e, R, s, m, args, below, meth, c, Q, nL⟩ := Γ
  obtain ⟨hx, hb, hml, hown, hts, hAm, hlk, htr⟩ := X
  intro H locs ls hp hS hl
  subst ha
  exact va_iald hx hb hAm.1 (hp.P hC) 0 0 rfl rfl hin hdg (k9 H locs ls hp hS hl)
theorem k_zald (X : kX Γ E A cc own) {t : kT} {a : Nat} {n : Nat} {f : Nat → Int32} {i : Int32} (hC : C t = some (.inl (E.2.1 1, n, .inl f))) (ha : L t = a) (hin : vp_in i n) (hdg : decode cc pc = .ok (.baload, 1)) (k9 : kW Γ E A C L cells slots (pc + 1) lo (.int (f i.toNatClampNeg) :: rest)) : kW Γ E A C L cells slots pc lo (.int i :: .ref a :: rest) := by
  obtain ⟨p, l, e, R, s, m, args, below, meth, c, Q, nL⟩ := Γ
  obtain ⟨hx, hb, hml, hown, hts, hAm, hlk, htr⟩ := X
  intro H locs ls hp hS hl
  subst ha
  exact va_zald hx hb hAm.1 (hp.P hC) 0 1 rfl rfl hin hdg (k9 H locs ls hp hS hl)
theorem k_lald (X : kX Γ E A cc own) {t : kT} {a : Nat} {n : Nat} {f : Nat → Int64} {i : Int32} (hC : C t = some (.inl (E.2.1 2, n, .inr (.inl f)))) (ha : L t = a) (hin : vp_in i n) (hdg : decode cc pc = .ok (.laload, 1)) (k9 : kW Γ E A C L cells slots (pc + 1) lo (.long (f i.toNatClampNeg) :: rest)) : kW Γ E A C L cells slots pc lo (.int i :: .ref a :: rest) := by
  obtain ⟨p, l, e, R, s, m, args, below, meth, c, Q, nL⟩ := Γ
  obtain ⟨hx, hb, hml, hown, hts, hAm, hlk, htr⟩ := X
  intro H locs ls hp hS hl
  subst ha
  exact va_lald hx hb hAm.1 (hp.P hC) 0 2 rfl rfl hin hdg (k9 H locs ls hp hS hl)
theorem k_aald (X : kX Γ E A cc own) {t : kT} {a : Nat} {n j : Nat} {nm : String} {f : Nat → Option Nat} {i : Int32} (hC : C t = some (.inl (E.2.1 j, n, .inr (.inr (.inr (.inr f)))))) (hj : (kty E.2.1)[j]? = some (E.2.1 j, .object nm)) (ha : L t = a) (hin : vp_in i n) (hdg : decode cc pc = .ok (.aaload, 1)) {v : Value} (hv : va_rf (f i.toNatClampNeg) = v) (k9 : kW Γ E A C L cells slots (pc + 1) lo (v :: rest)) : kW Γ E A C L cells slots pc lo (.int i :: .ref a :: rest) := by
  obtain ⟨p, l, e, R, s, m, args, below, meth, c, Q, nL⟩ := Γ
  obtain ⟨hx, hb, hml, hown, hts, hAm, hlk, htr⟩ := X
  intro H locs ls hp hS hl
  subst ha
  subst hv
  exact va_aldq hx hb hAm.1 (hp.P hC) 0 j rfl hj hin hdg (k9 H locs ls hp hS hl)
theorem k_alen (X : kX Γ E A cc own) {t : kT} {a : Nat} {j : Nat} {ty : FieldType} {x : vp_A} (hC : C t = some (.inl (E.2.1 j, x))) (hj : (kty E.2.1)[j]? = some (E.2.1 j, ty)) (ha : L t = a) (hdg : decode cc pc = .ok (.arraylength, 1)) (k9 : kW Γ E A C L cells slots (pc + 1) lo (.int (nI x.1) :: rest)) : kW Γ E A C L cells slots pc lo (.ref a :: rest) := by
  obtain ⟨p, l, e, R, s, m, args, below, meth, c, Q, nL⟩ := Γ
  obtain ⟨hx, hb, hml, hown, hts, hAm, hlk, htr⟩ := X
  intro H locs ls hp hS hl
  subst ha
  exact va_alen hx hb hAm.1 (hp.P hC) 0 j rfl hj rfl hdg (k9 H locs ls hp hS hl)
theorem k_iast (X : kX Γ E A cc own) {t : kT} {a : Nat} {n : Nat} {f : Nat → Int32} {i : Int32} {x : Int32} (hC : C t = some (.inl (E.2.1 0, n, .inl f))) (ha : L t = a) (hin : vp_in i n) (hdg : decode cc pc = .ok (.iastore, 1)) (k9 : kW Γ E A (kup C t (some (.inl (E.2.1 0, n, .inl (upd f i.toNatClampNeg x))))) L cells slots (pc + 1) lo rest) : kW Γ E A C L cells slots pc lo (.int x :: .int i :: .ref a :: rest) := by
  obtain ⟨p, l, e, R, s, m, args, below, meth, c, Q, nL⟩ := Γ
  obtain ⟨hx, hb, hml, hown, hts, hAm, hlk, htr⟩ := X
  intro H locs ls hp hS hl
  subst ha
  refine W.iast hx hb (hp.1 t _ hC).1 ((hAm.1.2 0 _ rfl).1 n (fun j => .int (f j))) (fun q => by cases q) (by show ¬ (i < 0 ∨ (arrV _ _ _).slots.size ≤ _); rw [arrV_size]; exact hin) rfl rfl hdg fun H1 e z oq => ?_
  refine k9 H1 _ ls (hp.upd hC ?_ oq) (hS.put z oq (hp.1 t _ hC).2) hl
  show H1[L t]? = some (vp_cell _ _)
  rw [e]
  rw [vp_cell_i, vp_cell_i, arrV_store]
  congr 2
  funext q
  by_cases hq : q = i.toNatClampNeg
  · subst hq
    simp [updV, upd]
    try rfl
  · simp [updV, upd, hq]
theorem k_zast (X : kX Γ E A cc own) {t : kT} {a : Nat} {n : Nat} {f : Nat → Int32} {i : Int32} {x : Int32} (hC : C t = some (.inl (E.2.1 1, n, .inl f))) (ha : L t = a) (hin : vp_in i n) (hdg : decode cc pc = .ok (.bastore, 1)) (k9 : kW Γ E A (kup C t (some (.inl (E.2.1 1, n, .inl (upd f i.toNatClampNeg (vp_nar .boolean x)))))) L cells slots (pc + 1) lo rest) : kW Γ E A C L cells slots pc lo (.int x :: .int i :: .ref a :: rest) := by
  obtain ⟨p, l, e, R, s, m, args, below, meth, c, Q, nL⟩ := Γ
  obtain ⟨hx, hb, hml, hown, hts, hAm, hlk, htr⟩ := X
  intro H locs ls hp hS hl
  subst ha
  refine W.zast hx hb (hp.1 t _ hC).1 ((hAm.1.2 1 _ rfl).1 n (fun j => .int (f j))) (fun q => by cases q) (by show ¬ (i < 0 ∨ (arrV _ _ _).slots.size ≤ _); rw [arrV_size]; exact hin) rfl rfl hdg fun H1 e z oq => ?_
  refine k9 H1 _ ls (hp.upd hC ?_ oq) (hS.put z oq (hp.1 t _ hC).2) hl
  show H1[L t]? = some (vp_cell _ _)
  rw [e]
  rw [vp_cell_i, vp_cell_i, arrV_store]
  congr 2
  funext q
  by_cases hq : q = i.toNatClampNeg
  · subst hq
    simp [updV, upd, vp_nar]
    try rfl
  · simp [updV, upd, vp_nar, hq]
theorem k_last (X : kX Γ E A cc own) {t : kT} {a : Nat} {n : Nat} {f : Nat → Int64} {i : Int32} {x : Int64} (hC : C t = some (.inl (E.2.1 2, n, .inr (.inl f)))) (ha : L t = a) (hin : vp_in i n) (hdg : decode cc pc = .ok (.lastore, 1)) (k9 : kW Γ E A (kup C t (some (.inl (E.2.1 2, n, .inr (.inl (vp_updL f i.toNatClampNeg x)))))) L cells slots (pc + 1) lo rest) : kW Γ E A C L cells slots pc lo (.long x :: .int i :: .ref a :: rest) := by
  obtain ⟨p, l, e, R, s, m, args, below, meth, c, Q, nL⟩ := Γ
  obtain ⟨hx, hb, hml, hown, hts, hAm, hlk, htr⟩ := X
  intro H locs ls hp hS hl
  subst ha
  refine W.last hx hb (hp.1 t _ hC).1 ((hAm.1.2 2 _ rfl).1 n (fun j => .long (f j))) (fun q => by cases q) (by show ¬ (i < 0 ∨ (arrV _ _ _).slots.size ≤ _); rw [arrV_size]; exact hin) rfl rfl hdg fun H1 e z oq => ?_
  refine k9 H1 _ ls (hp.upd hC ?_ oq) (hS.put z oq (hp.1 t _ hC).2) hl
  show H1[L t]? = some (vp_cell _ _)
  rw [e]
  rw [vp_cell_l, vp_cell_l, arrV_store]
  congr 2
  funext q
  by_cases hq : q = i.toNatClampNeg
  · subst hq
    simp [updV, vp_updL]
    try rfl
  · simp [updV, vp_updL, hq]
/-- a reference into a row; its class is the row's, or known to be castable -/
theorem k_aast (X : kX Γ E A cc own) {t u : kT} {a v : Nat} {n j ci : Nat} {nm : String} {f : Nat → Option Nat} {i : Int32} {r : vw_C} {vs : List Value} (hC : C t = some (.inl (E.2.1 j, n, .inr (.inr (.inr (.inr f)))))) (hj : (kty E.2.1)[j]? = some (E.2.1 j, .object nm)) (ha : L t = a) (hu : C u = some (.inr (ci, vs))) (hv : L u = v) (hc : vwCl[ci]? = some r) (hca : r.1 = nm ∨ (r.1, nm) ∈ kCas) (hin : vp_in i n) (hdg : decode cc pc = .ok (.aastore, 1)) (k9 : kW Γ E A (kup C t (some (.inl (E.2.1 j, n, .inr (.inr (.inr (.inr (va_up f i.toNatClampNeg (some v))))))))) L cells slots (pc + 1) lo rest) : kW Γ E A C L cells slots pc lo (.ref v :: .int i :: .ref a :: rest) := by
  obtain ⟨p, l, e, R, s, m, args, below, meth, c, Q, nL⟩ := Γ
  obtain ⟨hx, hb, hml, hown, hts, hAm, hlk, htr⟩ := X
  intro H locs ls hp hS hl
  subst ha
  subst hv
  have hlt : i.toNatClampNeg < n := Nat.not_le.mp fun q => hin (Or.inr q)
  have h0 : ¬ i < 0 := fun q => hin (Or.inl q)
  obtain ⟨r', hr', cellV, g1, g2, g3, -⟩ := (hp.1 u _ hu).1
  have hcls := (hAm.1.1 ci r hc).2
  obtain ⟨kA, comp, k1, k2, k3, -⟩ := (hAm.1.2 j _ hj).2
  obtain ⟨kE, hkE, -⟩ := Vm.findClass_spec k3
  obtain ⟨kC, hkC, -⟩ := id hcls.2
  have hasg : s.vm.assignable (E.1.1 ci) comp = true := by
    rcases hca with h9 | h9
    · rw [← h9] at k3
      have hcomp : comp = E.1.1 ci := Option.some.inj (k3.symm.trans hcls.1)
      rw [hcomp]
      exact va_assign hcls
    · obtain ⟨c0, t1, f1, f2, f3⟩ := Cond.castable_spec (va_Nw.use (A := args) rfl (hAm.2.2.2.2.2.2.1 _ h9))
      cases hcls.1.symm.trans f1
      cases k3.symm.trans f2
      exact f3
  refine W.aast hx hb (hp.1 t _ hC).1 (fun q h => by cases h) (fun h => by cases h) k1 k2 rfl hkE ⟨h0, by show _ < (arrV _ _ _).slots.size; rw [arrV_size]; exact hlt⟩ g1 (fun q h => by rw [g3] at h; cases h) (by rw [g2]; exact hkC) (by rw [g2]; exact hasg) rfl rfl hdg fun H1 e z oq => ?_
  refine k9 H1 _ ls (hp.upd hC ?_ oq) (hS.put z oq (hp.1 t _ hC).2) hl
  show H1[L t]? = some (vp_cell _ _)
  rw [e]
  rw [vp_cell_q, vp_cell_q, arrV_store]
  congr 2
  funext q
  by_cases hq : q = i.toNatClampNeg
  · subst hq
    simp [updV, va_up, va_rf]
  · simp [updV, va_up, hq]
/-- a cast to the thing's own class -/
theorem k_cast (X : kX Γ E A cc own) {t : kT} {a : Nat} {ci index : Nat} {r : vw_C} {vs : List Value} (hC : C t = some (.inr (ci, vs))) (hc : vwCl[ci]? = some r) (ha : L t = a) (hlink : Cond.classLink own index r.1 ∈ wsL_law) (hdg : decode cc pc = .ok (.checkcast index, 3)) (k9 : kW Γ E A C L cells slots (pc + 3) lo (.ref a :: rest)) : kW Γ E A C L cells slots pc lo (.ref a :: rest) := by
  obtain ⟨p, l, e, R, s, m, args, below, meth, c, Q, nL⟩ := Γ
  obtain ⟨hx, hb, hml, hown, hts, hAm, hlk, htr⟩ := X
  intro H locs ls hp hS hl
  subst ha
  exact va_castS hx hb hown (hts _ hlink) (hAm.1.1 ci r hc).2 (va_recv hAm.1 (hp.P hC) (q0 := 0) hc rfl) hdg (k9 H locs ls hp hS hl)
theorem k_castN (X : kX Γ E A cc own) {index : Nat} (hdg : decode cc pc = .ok (.checkcast index, 3)) (k9 : kW Γ E A C L cells slots (pc + 3) lo (.null :: rest)) : kW Γ E A C L cells slots pc lo (.null :: rest) := by
  obtain ⟨p, l, e, R, s, m, args, below, meth, c, Q, nL⟩ := Γ
  obtain ⟨hx, hb, hml, hown, hts, hAm, hlk, htr⟩ := X
  exact fun H locs ls hp hS hl => lv_castN hx hb hdg (k9 H locs ls hp hS hl)
theorem k_objInit (X : kX Γ E A cc own) {a idx : Nat} (hlink : Cond.methodLink own idx Lib.objectInit ∈ wsL_law) (hinst : Cond.instanceMethod Lib.objectInit ∈ wsL_law) (hcode : Cond.code Lib.objectInit ⟨#[0xb1]⟩ 1 none ∈ wsL_law) (hf : 1 ≤ (kRm Γ).frames) (hlo : (rest.map fun v => v.category).sum + 12 ≤ (kRm Γ).locals) (hdg : decode cc pc = .ok (.invokespecial idx, 3)) (k9 : kW Γ E A C L cells slots (pc + 3) lo rest) : kW Γ E A C L cells slots pc lo (.ref a :: rest) := by
  obtain ⟨p, l, e, R, s, m, args, below, meth, c, Q, nL⟩ := Γ
  obtain ⟨hx, hb, hml, hown, hts, hAm, hlk, htr⟩ := X
  intro H locs ls hp hS hl
  exact W.objInit hx hb hown (hts _ hlink) (hts _ hinst) (hts _ hcode) (g := F0 m pc ls (.ref a :: rest)) rfl (hl.1.trans hml.symm) rfl hdg hf (by show 2 * 0 + _ + _ ≤ _; have h9 : (rest.map fun v => v.category).sum + 12 ≤ R.locals := hlo; omega) (k9 H locs ls hp hS hl)

end KR2
/-! contracts -/
def kPc (E : kE) (A : Nat → Prop) (C : kC) (L : kL) (av : List Value) : Array Value → State → Prop := fun v U => v = av.toArray ∧ kp E A C L U.heap ∧ kAm E A U
def kQc (E : kE) (A : Nat → Prop) (P : Option Value → kC → kL → Prop) : Array Value → State → Outcome → State → Prop := fun _ st oc t => (∃ (v : Option Value) (C' : kC) (L' : kL), oc = .returned v ∧ P v C' L' ∧ kp E A C' L' t.heap) ∧ va_F A st t
def kXc (E : kE) (A : Nat → Prop) (PX : String → Prop) (C : kC) (L : kL) : String → State → State → Prop := fun X st t => PX X ∧ kp E A C L t.heap ∧ va_F A st t
/-- a method that returns -/
def kM (l : Launch) (y : MethodName) (cc : ByteArray) (n : Nat) (ret : Option FieldType) (fr lw mc ms : Nat) (E : kE) (A : Nat → Prop) (C : kC) (L : kL) (av : List Value) (P : Option Value → kC → kL → Prop) : Prop :=
  Met l y (.code y cc n ret :: wsL_law) ({ frames := fr, cells := mc, slots := ms, locals := lw } : Room) (kPc E A C L av) (kQc E A P) mc ms A
/-- a method that returns, or throws and leaves all as it was -/
def kMX (l : Launch) (y : MethodName) (cc : ByteArray) (n : Nat) (ret : Option FieldType) (fr lw mc ms : Nat) (E : kE) (A : Nat → Prop) (C : kC) (L : kL) (av : List Value) (P : Option Value → kC → kL → Prop) (PX : String → Prop) : Prop :=
  vx_Met l y (.code y cc n ret :: wsL_law) ({ frames := fr, cells := mc, slots := ms, locals := lw } : Room) (kPc E A C L av) (kQc E A P) (kXc E A PX C L) mc ms A
theorem kPc.blind {E : kE} {A : Nat → Prop} {C : kC} {L : kL} {av : List Value} : FrameBlind (kPc E A C L av) := fun a U g mk h => ⟨h.1, h.2.1, kAm.same (u := U) (U := U.calling g mk a) rfl rfl h.2.2⟩
def kpush (v : Option Value) (rest : List Value) : List Value := match v with
  | none => rest
  | some x => x :: rest
/-- what a method owes at its end -/
def kEnd (Γ : kG) (E : kE) (A : Nat → Prop) (P : Option Value → kC → kL → Prop) (mc ms : Nat) (ret : Option FieldType) : Prop :=
  match Γ with
  | (p, l, e, R, s, m, args, below, meth, c, Q, nL) => meth.sig.returnType = ret ∧ ∀ (H : Heap) (locs : List Loc) (g : JFrame), W p l e R s m args below meth c H locs mc ms (MQ below (kQc E A P) args s mc ms A) g → W p l e R s m args below meth c H locs mc ms Q g
def kThr (Γ : kG) (E : kE) (A : Nat → Prop) (PX : String → Prop) (C : kC) (L : kL) (mc ms : Nat) : Prop :=
  match Γ with
  | (p, l, e, R, s, m, args, below, meth, c, Q, nL) => (∀ x ∈ c.exceptionTable.toList, False) ∧ ∃ P : Option Value → kC → kL → Prop, Q = vx_MQ below (kQc E A P) (kXc E A PX C L) args s mc ms A
section KR3
variable {Γ : kG} {E : kE} {A : Nat → Prop} {cc : ByteArray} {own : String} {C : kC} {L : kL} {cells slots pc : Nat} {lo : List (Nat × Value)} {rest : List Value} {P : Option Value → kC → kL → Prop} {PX : String → Prop} {mc ms : Nat}

theorem k_iret (X : kX Γ E A cc own) {v : Int32} (hE : kEnd Γ E A P mc ms (some .int)) (hdg : decode cc pc = .ok (.ireturn, 1)) (hc : cells ≤ mc) (hs : slots ≤ ms) (hP : P (some (.int v)) C L) : kW Γ E A C L cells slots pc lo [.int v] := by
  obtain ⟨p, l, e, R, s, m, args, below, meth, c, Q, nL⟩ := Γ
  obtain ⟨hx, hb, hml, hown, hts, hAm, hlk, htr⟩ := X
  intro H locs ls hp hS hl
  exact W.widen hc hs (hE.2 _ _ _ (W.iret hx hb hE.1 (fun t ht hW => ⟨⟨_, C, L, rfl, hP, by rw [ht]; exact hp⟩, hS.F ht⟩) hS.2.2 hdg))
theorem k_vret (X : kX Γ E A cc own) (hE : kEnd Γ E A P mc ms none) (hdg : decode cc pc = .ok (.return_, 1)) (hc : cells ≤ mc) (hs : slots ≤ ms) (hP : P none C L) : kW Γ E A C L cells slots pc lo [] := by
  obtain ⟨p, l, e, R, s, m, args, below, meth, c, Q, nL⟩ := Γ
  obtain ⟨hx, hb, hml, hown, hts, hAm, hlk, htr⟩ := X
  intro H locs ls hp hS hl
  exact W.widen hc hs (hE.2 _ _ _ (W.vret hx hb hE.1 (fun t ht hW => ⟨⟨_, C, L, rfl, hP, by rw [ht]; exact hp⟩, hS.F ht⟩) hS.2.2 hdg))
theorem k_zret (X : kX Γ E A cc own) {v : Int32} (hE : kEnd Γ E A P mc ms (some .boolean)) (hn : narrow .boolean (.int v) = .int v) (hdg : decode cc pc = .ok (.ireturn, 1)) (hc : cells ≤ mc) (hs : slots ≤ ms) (hP : P (some (.int v)) C L) : kW Γ E A C L cells slots pc lo [.int v] := by
  obtain ⟨p, l, e, R, s, m, args, below, meth, c, Q, nL⟩ := Γ
  obtain ⟨hx, hb, hml, hown, hts, hAm, hlk, htr⟩ := X
  intro H locs ls hp hS hl
  exact W.widen hc hs (hE.2 _ _ _ (W.zret hx hb hE.1 hn (fun t ht hW => ⟨⟨_, C, L, rfl, hP, by rw [ht]; exact hp⟩, hS.F ht⟩) hS.2.2 hdg))
theorem k_aret (X : kX Γ E A cc own) {v : Value} {rt : FieldType} (hE : kEnd Γ E A P mc ms (some rt)) (hrt : (∃ n, rt = .object n) ∨ ∃ t, rt = .array t) (hv : v = .null ∨ ∃ a, v = .ref a) (hdg : decode cc pc = .ok (.areturn, 1)) (hc : cells ≤ mc) (hs : slots ≤ ms) (hP : P (some v) C L) : kW Γ E A C L cells slots pc lo [v] := by
  obtain ⟨p, l, e, R, s, m, args, below, meth, c, Q, nL⟩ := Γ
  obtain ⟨hx, hb, hml, hown, hts, hAm, hlk, htr⟩ := X
  intro H locs ls hp hS hl
  exact W.widen hc hs (hE.2 _ _ _ (W.aret hx hb hE.1 hrt hv (fun t ht hW => ⟨⟨_, C, L, rfl, hP, by rw [ht]; exact hp⟩, hS.F ht⟩) hS.2.2 hdg))
end KR3
section KR4
variable {p : Program} {l : Launch} {e : Env} {R : Room} {s : State} {m : MethodId} {args : Array Value} {below : List Frame} {meth : Method} {c : Code} {H : Heap} {locs : List Loc} {cells slots : Nat} {Q : State → Prop}
variable {E : kE} {A : Nat → Prop} {C : kC} {L : kL} {pc mc ms : Nat} {ls : Array Slot} {rest st0 : List Value} {P : Option Value → kC → kL → Prop} {PX : String → Prop} {a : Array Value}
theorem kt_keep {st₀ t T' : State} {L9 : List Loc} (h0 : st₀.heap = H) (e1 : T'.heap = t.heap) (hS : va_S A s.heap H locs) (hL : ∀ q ∈ L9, A q.base) (hF : va_F A st₀ t) : va_S A s.heap T'.heap (locs ++ L9) := by
  obtain ⟨hz, hk⟩ := hF
  rw [h0] at hz hk
  exact ⟨Nat.le_trans hS.1 (by rw [e1]; exact hz), fun q h1 h2 => by rw [e1, hk q (Nat.lt_of_lt_of_le h1 hS.1) h2]; exact hS.2.1 q h1 h2, fun q hq => by
      rcases List.mem_append.mp hq with h | h
      · exact hS.2.2 q h
      · exact hL q h⟩
theorem k_cont (hr : va_Run p l e R s m args below meth c H locs cells slots mc ms (F0 m pc ls st0) rest (kQc E A P a) A) (hS : va_S A s.heap H locs)
    (kk : ∀ (v : Option Value) (C' : kC) (L' : kL) (H1 : Heap) (locs1 : List Loc), P v C' L' → kp E A C' L' H1 → va_S A s.heap H1 locs1 → W p l e R s m args below meth c H1 locs1 (cells + mc) (slots + ms) Q (F0 m (pc + 3) ls (kpush v rest))) : W p l e R s m args below meth c H locs cells slots Q (F0 m pc ls st0) := by
  intro T hT X
  obtain ⟨v, st₀, t, T', L9, h0, X', hL, e1, e2, ⟨⟨v', C', L', hv, hp, hb⟩, hF⟩, st⟩ := hr T hT X
  cases hv
  obtain ⟨t2, a1, b1⟩ := kk v C' L' T'.heap (locs ++ L9) hp (by rw [e1]; exact hb) (kt_keep h0 e1 hS hL hF) T' rfl X'
  refine ⟨t2, st t2 ?_, b1⟩
  cases v <;> exact a1
theorem k_contX (hr : vx_Run p l e R s m args below meth c H locs cells slots mc ms (F0 m pc ls st0) rest (kQc E A P a) (kXc E A PX C L) A) (hS : va_S A s.heap H locs)
    (kx : ∀ (X9 : String) (ce : Cell) (q9 : Addr) (H1 : Heap) (locs1 : List Loc), PX X9 → kp E A C L H1 → va_S A s.heap H1 locs1 → H1[q9]? = some ce → ce.vm = .none → s.vm.findClass X9 = some ce.cls → vx_W p l e R s m args below meth c H1 locs1 (cells + mc) (slots + ms) Q (F0 m pc ls rest) q9)
    (kk : ∀ (v : Option Value) (C' : kC) (L' : kL) (H1 : Heap) (locs1 : List Loc), P v C' L' → kp E A C' L' H1 → va_S A s.heap H1 locs1 → W p l e R s m args below meth c H1 locs1 (cells + mc) (slots + ms) Q (F0 m (pc + 3) ls (kpush v rest))) : W p l e R s m args below meth c H locs cells slots Q (F0 m pc ls st0) := by
  intro T hT X
  rcases hr T hT X with ⟨v, st₀, t, T', L9, h0, X', hL, e1, e2, ⟨⟨v', C', L', hv, hp, hb⟩, hF⟩, st⟩ | ⟨q, st₀, t, T', L9, X9, ce, h0, X', hL, e1, e2, ⟨hpx, hkp, hF⟩, hce, hcv, hcl, st⟩
  · cases hv
    obtain ⟨t2, a1, b1⟩ := kk v C' L' T'.heap (locs ++ L9) hp (by rw [e1]; exact hb) (kt_keep h0 e1 hS hL hF) T' rfl X'
    refine ⟨t2, st t2 ?_, b1⟩
    cases v <;> exact a1
  · obtain ⟨t2, a1, b1⟩ := kx X9 ce q T'.heap (locs ++ L9) hpx (by rw [e1]; exact hkp) (kt_keep h0 e1 hS hL hF) (by rw [e1]; exact hce) hcv hcl T' rfl X'
    exact ⟨t2, st.trans a1, b1⟩
theorem kt_am {U : State} (hAm : kAm E A s) (hS : va_S A s.heap H locs) (hU : U.heap = H) (hW : s.WarmedH U.vm) : kAm E A U := by
  refine kAm.warm hW (by rw [hU]; exact hS.1) (fun q h1 h2 => by rw [hU]; exact hS.2.1 q h1 h2) hAm
end KR4
/-- the words that a call needs -/
def kV (y : MethodName) (cc : ByteArray) (n : Nat) (ret : Option FieldType) (na : Nat) : Prop := Cond.instanceMethod y ∈ wsL_law ∧ Cond.selects y.cls y y ∈ wsL_law ∧ Cond.initialized y.cls ∈ wsL_law ∧ Cond.code y cc n ret ∈ wsL_law ∧ y.cls ≠ "java/lang/invoke/MethodHandle" ∧ y.cls ≠ "java/lang/invoke/VarHandle" ∧ (parseMethodDescriptor y.desc).map (fun d => d.parameters.length) = some na
def kSt9 (y : MethodName) (cc : ByteArray) (n : Nat) (ret : Option FieldType) (na : Nat) : Prop := Cond.static y ∈ wsL_law ∧ Cond.initialized y.cls ∈ wsL_law ∧ Cond.code y cc n ret ∈ wsL_law ∧ y.cls ≠ "java/lang/invoke/MethodHandle" ∧ y.cls ≠ "java/lang/invoke/VarHandle" ∧ (parseMethodDescriptor y.desc).map (fun d => d.parameters.length) = some na
def kI (y : MethodName) (cc : ByteArray) (n : Nat) (na : Nat) : Prop := Cond.instanceMethod y ∈ wsL_law ∧ Cond.initialized y.cls ∈ wsL_law ∧ Cond.code y cc n none ∈ wsL_law ∧ y.name = "<init>" ∧ y.cls ≠ "java/lang/invoke/MethodHandle" ∧ y.cls ≠ "java/lang/invoke/VarHandle" ∧ (parseMethodDescriptor y.desc).map (fun d => d.parameters.length) = some na
theorem kV.good {own : String} {idx n na : Nat} {y : MethodName} {cc : ByteArray} {ret : Option FieldType} (h : kV y cc n ret na) (hl : Cond.methodLink own idx y ∈ wsL_law) : GoodIn wsL_law (wsV own idx y.cls y (.code y cc n ret :: wsL_law)) := by
  refine kGI fun w hw => ?_
  unfold wsV at hw
  rcases List.mem_append.mp hw with h9 | h9
  · simp only [List.mem_cons, List.not_mem_nil, or_false] at h9
    rcases h9 with e | e | e | e
    · rw [e]; exact hl
    · rw [e]; exact h.1
    · rw [e]; exact h.2.1
    · rw [e]; exact h.2.2.1
  · rcases List.mem_cons.mp h9 with e | e
    · rw [e]; exact h.2.2.2.1
    · exact e
theorem kSt9.good {own : String} {idx n na : Nat} {y : MethodName} {cc : ByteArray} {ret : Option FieldType} (h : kSt9 y cc n ret na) (hl : Cond.methodLink own idx y ∈ wsL_law) : GoodIn wsL_law (va_wsS own idx y (.code y cc n ret :: wsL_law)) := by
  refine kGI fun w hw => ?_
  unfold va_wsS at hw
  rcases List.mem_append.mp hw with h9 | h9
  · simp only [List.mem_cons, List.not_mem_nil, or_false] at h9
    rcases h9 with e | e | e
    · rw [e]; exact hl
    · rw [e]; exact h.1
    · rw [e]; exact h.2.1
  · rcases List.mem_cons.mp h9 with e | e
    · rw [e]; exact h.2.2.1
    · exact e
theorem kI.good {n na : Nat} {y : MethodName} {cc : ByteArray} (h : kI y cc n na) : GoodIn wsL_law (.code y cc n none :: wsL_law) := by
  refine kGI fun w hw => ?_
  rcases List.mem_cons.mp hw with e | e
  · rw [e]; exact h.2.2.1
  · exact e
section KR5
variable {Γ : kG} {E : kE} {A : Nat → Prop} {cc : ByteArray} {own : String} {C : kC} {L : kL} {cells slots pc : Nat} {lo : List (Nat × Value)} {rest : List Value} {P : Option Value → kC → kL → Prop} {PX : String → Prop} {mc ms : Nat}
variable {y : MethodName} {cy : ByteArray} {n9 na fr lw mc9 ms9 idx : Nat} {ret : Option FieldType} {av : List Value} {P9 : Option Value → kC → kL → Prop} {PX9 : String → Prop} {b : Nat} {st : List Value}
def kTr (Γ : kG) : Prop := Γ.2.1.stackTraces = false
theorem kX.tr (X : kX Γ E A cc own) : kTr Γ := by
  obtain ⟨p, l, e, R, s, m, args, below, meth, c, Q, nL⟩ := Γ
  obtain ⟨hx, hb, hml, hown, hts, hAm, hlk, htr⟩ := X
  exact htr
theorem k_callV (X : kX Γ E A cc own) (hv : kV y cy n9 ret na) (hlink : Cond.methodLink own idx y ∈ wsL_law) (hM : kM Γ.2.1 y cy n9 ret fr lw mc9 ms9 E A C L (.ref b :: av) P9) {t : kT} {ci : Nat} {vs : List Value} {r : vw_C} (hC : C t = some (.inr (ci, vs))) (hc9 : vwCl[ci]? = some r) (hcls : r.1 = y.cls) (hb9 : L t = b) (hna : av.length = na) (hst : av.reverse ++ .ref b :: rest = st) (hcat : (rest.map fun v => v.category).sum ≤ 8) (hR : fr + 1 ≤ (kRm Γ).frames ∧ 8 + (n9 + 11) + lw ≤ (kRm Γ).locals) (hf : cells + mc9 ≤ (kRm Γ).cells ∧ slots + ms9 ≤ (kRm Γ).slots) (hdg : decode cc pc = .ok (.invokevirtual idx, 3))
    (k9 : ∀ (v : Option Value) (C' : kC) (L' : kL), P9 v C' L' → kW Γ E A C' L' (cells + mc9) (slots + ms9) (pc + 3) lo (kpush v rest)) : kW Γ E A C L cells slots pc lo st := by
  obtain ⟨p, l, e, R, s, m, args, below, meth, c, Q, nL⟩ := Γ
  obtain ⟨hx, hb, hml, hown, hts, hAm, hlk, htr⟩ := X
  intro H locs ls hp hS hl
  subst hst
  subst hb9
  refine k_cont (va_runV ⟨hx, hb, hml, hown, hts⟩ hM (cwV na hts (hv.good hlink) rfl rfl rfl ⟨rfl, hv.2.2.2.2.1, hv.2.2.2.2.2.1, hv.2.2.2.2.2.2⟩ hR) ⟨kPc.blind, ?_, fun U hU hW => ⟨rfl, by rw [hU]; exact hp, kt_am hAm hS hU hW⟩⟩ rfl hna hl.1 rfl (lv_room hcat) hdg hf) hS (fun v C' L' H1 locs1 h1 h2 h3 => k9 v C' L' h1 H1 locs1 ls h2 h3 hl)
  rw [← hcls]
  exact va_recv hAm.1 (hp.P hC) (q0 := 0) hc9 rfl
theorem k_callS (X : kX Γ E A cc own) (hv : kSt9 y cy n9 ret na) (hlink : Cond.methodLink own idx y ∈ wsL_law) (hM : kM Γ.2.1 y cy n9 ret fr lw mc9 ms9 E A C L av P9) (hna : av.length = na) (hst : av.reverse ++ rest = st) (hcat : (rest.map fun v => v.category).sum ≤ 8) (hR : fr + 1 ≤ (kRm Γ).frames ∧ 8 + (n9 + 11) + lw ≤ (kRm Γ).locals) (hf : cells + mc9 ≤ (kRm Γ).cells ∧ slots + ms9 ≤ (kRm Γ).slots) (hdg : decode cc pc = .ok (.invokestatic idx, 3))
    (k9 : ∀ (v : Option Value) (C' : kC) (L' : kL), P9 v C' L' → kW Γ E A C' L' (cells + mc9) (slots + ms9) (pc + 3) lo (kpush v rest)) : kW Γ E A C L cells slots pc lo st := by
  obtain ⟨p, l, e, R, s, m, args, below, meth, c, Q, nL⟩ := Γ
  obtain ⟨hx, hb, hml, hown, hts, hAm, hlk, htr⟩ := X
  intro H locs ls hp hS hl
  subst hst
  exact k_cont (va_runS ⟨hx, hb, hml, hown, hts⟩ hM (va_cwS na hts (hv.good hlink) rfl rfl rfl ⟨hv.2.2.2.1, hv.2.2.2.2.1, hv.2.2.2.2.2⟩ hR) ⟨kPc.blind, fun U hU hW => ⟨rfl, by rw [hU]; exact hp, kt_am hAm hS hU hW⟩⟩ rfl hna hl.1 rfl (lv_room hcat) hdg hf) hS (fun v C' L' H1 locs1 h1 h2 h3 => k9 v C' L' h1 H1 locs1 ls h2 h3 hl)
theorem k_callI (X : kX Γ E A cc own) (hv : kI y cy n9 na) (hlink : Cond.methodLink own idx y ∈ wsL_law) (hM : kM Γ.2.1 y cy n9 none fr lw mc9 ms9 E A C L (.ref b :: av) P9) (hna : av.length = na) (hst : av.reverse ++ .ref b :: rest = st) (hcat : (rest.map fun v => v.category).sum ≤ 8) (hR : fr + 1 ≤ (kRm Γ).frames ∧ 8 + (n9 + 11) + lw ≤ (kRm Γ).locals) (hf : cells + mc9 ≤ (kRm Γ).cells ∧ slots + ms9 ≤ (kRm Γ).slots) (hdg : decode cc pc = .ok (.invokespecial idx, 3))
    (k9 : ∀ (v : Option Value) (C' : kC) (L' : kL), P9 v C' L' → kW Γ E A C' L' (cells + mc9) (slots + ms9) (pc + 3) lo (kpush v rest)) : kW Γ E A C L cells slots pc lo st := by
  obtain ⟨p, l, e, R, s, m, args, below, meth, c, Q, nL⟩ := Γ
  obtain ⟨hx, hb, hml, hown, hts, hAm, hlk, htr⟩ := X
  intro H locs ls hp hS hl
  subst hst
  exact k_cont (va_runI ⟨hx, hb, hml, hown, hts⟩ hM (cwI na hts hv.good rfl rfl rfl (hts _ hv.2.1) (hts _ hlink) (hts _ hv.1) hv.2.2.2.1 ⟨hv.2.2.2.2.1, hv.2.2.2.2.2.1, hv.2.2.2.2.2.2⟩ hR) ⟨kPc.blind, fun U hU hW => ⟨rfl, by rw [hU]; exact hp, kt_am hAm hS hU hW⟩⟩ rfl hna hl.1 rfl (lv_room hcat) hdg hf) hS (fun v C' L' H1 locs1 h1 h2 h3 => k9 v C' L' h1 H1 locs1 ls h2 h3 hl)
/-- a constructor of a nest mate's -/
theorem k_callIN (X : kX Γ E A cc own) (hv : kI y cy n9 na) {host : String} (hlink : (own, idx, y, host) ∈ kNst) (hM : kM Γ.2.1 y cy n9 none fr lw mc9 ms9 E A C L (.ref b :: av) P9) (hna : av.length = na) (hst : av.reverse ++ .ref b :: rest = st) (hcat : (rest.map fun v => v.category).sum ≤ 8) (hR : fr + 1 ≤ (kRm Γ).frames ∧ 8 + (n9 + 11) + lw ≤ (kRm Γ).locals) (hf : cells + mc9 ≤ (kRm Γ).cells ∧ slots + ms9 ≤ (kRm Γ).slots) (hdg : decode cc pc = .ok (.invokespecial idx, 3))
    (k9 : ∀ (v : Option Value) (C' : kC) (L' : kL), P9 v C' L' → kW Γ E A C' L' (cells + mc9) (slots + ms9) (pc + 3) lo (kpush v rest)) : kW Γ E A C L cells slots pc lo st := by
  obtain ⟨p, l, e, R, s, m, args, below, meth, c, Q, nL⟩ := Γ
  obtain ⟨hx, hb, hml, hown, hts, hAm, hlk, htr⟩ := X
  intro H locs ls hp hS hl
  subst hst
  have hNl : va_Nw (.methodLinkNest own idx y host) s := hAm.2.2.2.2.2.2.2.1 _ hlink
  exact k_cont (va_runIN ⟨hx, hb, hml, hown, hts⟩ hM ⟨va_cnB na hts hv.good rfl rfl rfl hNl (hts _ hv.2.1) ⟨hv.2.2.2.2.1, hv.2.2.2.2.2.1, hv.2.2.2.2.2.2⟩ hR, hv.2.2.2.1, hts _ hv.1⟩ ⟨kPc.blind, fun U hU hW => ⟨rfl, by rw [hU]; exact hp, kt_am hAm hS hU hW⟩⟩ rfl hna hl.1 rfl (lv_room hcat) hdg hf) hS (fun v C' L' H1 locs1 h1 h2 h3 => k9 v C' L' h1 H1 locs1 ls h2 h3 hl)
/-- calls that may throw, in a method without handlers: it goes on to the caller, all as it was at the entry -/
theorem k_callVX (X : kX Γ E A cc own) {C0 : kC} {L0 : kL} (hT : kThr Γ E A PX C0 L0 mc ms) (hv : kV y cy n9 ret na) (hlink : Cond.methodLink own idx y ∈ wsL_law) (hM : kMX Γ.2.1 y cy n9 ret fr lw mc9 ms9 E A C L (.ref b :: av) P9 PX9) (hPX : ∀ X9, PX9 X9 → PX X9 ∧ C0 = C ∧ L0 = L) {t : kT} {ci : Nat} {vs : List Value} {r : vw_C} (hC : C t = some (.inr (ci, vs))) (hc9 : vwCl[ci]? = some r) (hcls : r.1 = y.cls) (hb9 : L t = b) (hna : av.length = na) (hst : av.reverse ++ .ref b :: rest = st) (hcat : (rest.map fun v => v.category).sum ≤ 8) (hR : fr + 1 ≤ (kRm Γ).frames ∧ 8 + (n9 + 11) + lw ≤ (kRm Γ).locals) (hf : cells + mc9 ≤ (kRm Γ).cells ∧ slots + ms9 ≤ (kRm Γ).slots) (hm : cells + mc9 ≤ mc ∧ slots + ms9 ≤ ms) (hdg : decode cc pc = .ok (.invokevirtual idx, 3))
    (k9 : ∀ (v : Option Value) (C' : kC) (L' : kL), P9 v C' L' → kW Γ E A C' L' (cells + mc9) (slots + ms9) (pc + 3) lo (kpush v rest)) : kW Γ E A C L cells slots pc lo st := by
  obtain ⟨p, l, e, R, s, m, args, below, meth, c, Q, nL⟩ := Γ
  obtain ⟨hx, hb, hml, hown, hts, hAm, hlk, htr⟩ := X
  obtain ⟨hnt, P8, hQ⟩ := hT
  intro H locs ls hp hS hl
  subst hst
  subst hb9
  refine k_contX (vx_runV ⟨hx, hb, hml, hown, hts⟩ hM (cwV na hts (hv.good hlink) rfl rfl rfl ⟨rfl, hv.2.2.2.2.1, hv.2.2.2.2.2.1, hv.2.2.2.2.2.2⟩ hR) ⟨kPc.blind, ?_, fun U hU hW => ⟨rfl, by rw [hU]; exact hp, kt_am hAm hS hU hW⟩⟩ rfl hna hl.1 rfl (lv_room hcat) hdg hf) hS (fun X9 ce q9 H1 locs1 h1 h2 h3 h4 h5 h6 => ?_) (fun v C' L' H1 locs1 h1 h2 h3 => k9 v C' L' h1 H1 locs1 ls h2 h3 hl)
  · rw [← hcls]
    exact va_recv hAm.1 (hp.P hC) (q0 := 0) hc9 rfl
  · obtain ⟨g1, g2, g3⟩ := hPX X9 h1
    subst g2; subst g3; subst hQ
    exact vx_out (fun x hx => (hnt x hx).elim) hlk h4 h5 h6 (fun t ht hal => ⟨g1, by rw [ht]; exact h2, h3.F ht⟩) h3.2.2 hm.1 hm.2
theorem k_callSX (X : kX Γ E A cc own) {C0 : kC} {L0 : kL} (hT : kThr Γ E A PX C0 L0 mc ms) (hv : kSt9 y cy n9 ret na) (hlink : Cond.methodLink own idx y ∈ wsL_law) (hM : kMX Γ.2.1 y cy n9 ret fr lw mc9 ms9 E A C L av P9 PX9) (hPX : ∀ X9, PX9 X9 → PX X9 ∧ C0 = C ∧ L0 = L) (hna : av.length = na) (hst : av.reverse ++ rest = st) (hcat : (rest.map fun v => v.category).sum ≤ 8) (hR : fr + 1 ≤ (kRm Γ).frames ∧ 8 + (n9 + 11) + lw ≤ (kRm Γ).locals) (hf : cells + mc9 ≤ (kRm Γ).cells ∧ slots + ms9 ≤ (kRm Γ).slots) (hm : cells + mc9 ≤ mc ∧ slots + ms9 ≤ ms) (hdg : decode cc pc = .ok (.invokestatic idx, 3))
    (k9 : ∀ (v : Option Value) (C' : kC) (L' : kL), P9 v C' L' → kW Γ E A C' L' (cells + mc9) (slots + ms9) (pc + 3) lo (kpush v rest)) : kW Γ E A C L cells slots pc lo st := by
  obtain ⟨p, l, e, R, s, m, args, below, meth, c, Q, nL⟩ := Γ
  obtain ⟨hx, hb, hml, hown, hts, hAm, hlk, htr⟩ := X
  obtain ⟨hnt, P8, hQ⟩ := hT
  intro H locs ls hp hS hl
  subst hst
  refine k_contX (vx_runS ⟨hx, hb, hml, hown, hts⟩ hM (va_cwS na hts (hv.good hlink) rfl rfl rfl ⟨hv.2.2.2.1, hv.2.2.2.2.1, hv.2.2.2.2.2⟩ hR) ⟨kPc.blind, fun U hU hW => ⟨rfl, by rw [hU]; exact hp, kt_am hAm hS hU hW⟩⟩ rfl hna hl.1 rfl (lv_room hcat) hdg hf) hS (fun X9 ce q9 H1 locs1 h1 h2 h3 h4 h5 h6 => ?_) (fun v C' L' H1 locs1 h1 h2 h3 => k9 v C' L' h1 H1 locs1 ls h2 h3 hl)
  obtain ⟨g1, g2, g3⟩ := hPX X9 h1
  subst g2; subst g3; subst hQ
  exact vx_out (fun x hx => (hnt x hx).elim) hlk h4 h5 h6 (fun t ht hal => ⟨g1, by rw [ht]; exact h2, h3.F ht⟩) h3.2.2 hm.1 hm.2
/-- throw new E("..") -/
theorem k_throw (X : kX Γ E A cc RX5) (hT : kThr Γ E A PX C L mc ms) {cls text : String} {ik is ic : Nat} (hcls : Bundle.fit cls = true) (hk : Cond.classLink RX5 ik cls ∈ wsL_law) (hini : Cond.initialized cls ∈ wsL_law) (hstr : (is, text) ∈ kStr) (hat : ∀ w ∈ (vx_atS RX5 ic cls ["java/lang/RuntimeException", "java/lang/Exception"]).filter goodWord, w ∈ wsL_law) (hbad : ∀ w ∈ (vx_atS RX5 ic cls ["java/lang/RuntimeException", "java/lang/Exception"]).filter (fun w => !goodWord w), w ∈ [Cond.castable cls cls, .declares (Bundle.initS "java/lang/RuntimeException"), .declares (Bundle.initS "java/lang/Exception"), .declares (Bundle.initS "java/lang/Throwable")]) (hcas : (cls, cls) ∈ kCas)
    (hgood : ∀ w ∈ Cond.classLink RX5 ik cls :: Cond.initialized cls :: vx_atS RX5 ic cls ["java/lang/RuntimeException", "java/lang/Exception"], vx_ot w = true) (hPX : PX cls)
    (d0 : decode cc pc = .ok (.new ik, 3)) (d3 : decode cc (pc + 3) = .ok (.dup, 1)) (d4 : decode cc (pc + 4) = .ok (.ldc is, 2)) (d6 : decode cc (pc + 6) = .ok (.invokespecial ic, 3)) (d9 : decode cc (pc + 9) = .ok (.athrow, 1))
    (hRf : 5 < (kRm Γ).frames) (hRl : (rest.map fun v => v.category).sum + 82 ≤ (kRm Γ).locals) (hRc : cells + 1 ≤ (kRm Γ).cells) (hRs : slots + 6 ≤ (kRm Γ).slots) (hc : cells + 1 ≤ mc) (hs : slots + 6 ≤ ms) : kW Γ E A C L cells slots pc lo rest := by
  obtain ⟨p, l, e, R, s, m, args, below, meth, c, Q, nL⟩ := Γ
  obtain ⟨hx, hb, hml, hown, hts, hAm, hlk, htr⟩ := X
  obtain ⟨hnt, P8, hQ⟩ := hT
  intro H locs ls hp hS hl
  subst hQ
  obtain ⟨sa, hsa⟩ := hAm.2.2.2.2.1 _ hstr
  have hD := hAm.2.2.2.2.2.2.2.2.2
  have hca : ∀ w ∈ [Cond.castable cls cls, .declares (Bundle.initS "java/lang/RuntimeException"), .declares (Bundle.initS "java/lang/Exception"), .declares (Bundle.initS "java/lang/Throwable")], w.before args s = true := vx_c (va_Nw.use rfl (hAm.2.2.2.2.2.2.1 _ hcas)) (vx_c (va_Nw.use rfl (hD "java/lang/RuntimeException" (by simp [kDcl]))) (vx_c (va_Nw.use rfl (hD "java/lang/Exception" (by simp [kDcl]))) (vx_c (va_Nw.use rfl (hD "java/lang/Throwable" (by simp [kDcl]))) vx_n)))
  exact vx_throwS (names := ["java/lang/RuntimeException", "java/lang/Exception"]) hx hb htr hown hcls (fun n hn => by
    simp only [List.mem_cons, List.not_mem_nil, or_false] at hn
    rcases hn with e | e <;> rw [e] <;> decide +kernel) (hts _ hk) (hts _ hini) hsa (vx_hat (fun w hw => hts w (hat w hw)) hbad hca) hgood hAm.2.2.1.1 hAm.2.2.1.2 hS (hl.1.trans hml.symm) d0 d3 d4 d6 d9 (fun x hx => (hnt x hx).elim) hRf hRl hRc hRs hlk
    (fun t hal hz hq => ⟨hPX, hp.kept hq, ⟨Nat.le_trans hS.1 hz, fun q h1 h2 => (hq q (Nat.lt_of_lt_of_le h1 hS.1)).trans (hS.2.1 q h1 h2)⟩⟩) hS.2.2 hc hs
end KR5
/-! the entry -/
theorem kM.of {l : Launch} {y : MethodName} {cc : ByteArray} {n : Nat} {ret : Option FieldType} {fr lw mc ms : Nat} {E : kE} {A : Nat → Prop} {C : kC} {L : kL} {av : List Value} {P : Option Value → kC → kL → Prop} (htr : l.stackTraces = false) (hy : plainName y.cls = true) (hlen : (lg_sl av).length ≤ n)
    (body : ∀ Γ : kG, Γ.2.1 = l → kRm Γ = ({ frames := fr, cells := mc, slots := ms, locals := lw } : Room) → kNl Γ = n → (kMe Γ).name = y.name → kX Γ E A cc y.cls → kEnd Γ E A P mc ms ret → kW Γ E A C L 0 0 0 (lv_args 0 av) []) : kM l y cc n ret fr lw mc ms E A C L av P := by
  refine Met.ofW (cc := cc) (maxL := n) (ret := ret) hy rfl ?_
  intro p e s m args below meth c s₁ B hml hv
  obtain ⟨rfl, hp, hAm⟩ := hv
  have hts := atoms_spec (ws := .code y cc n ret :: wsL_law) B.pre
  have h9 := body (p, l, e, _, s, m, av.toArray, below, meth, c, _, n) rfl rfl rfl (name_of_methodNamed B.named B.method).1 ⟨B.exec, B.bytes, hml, findClass_of_methodNamed B.named, fun w hw => hts w (List.mem_cons_of_mem _ hw), hAm, B.notSynchronized, htr⟩ ⟨B.returns, fun H locs g k => k⟩
  rw [lg_entry_eq]
  exact h9 s.heap [] _ hp va_S.rf (lv_entry av hlen)
theorem kMX.of {l : Launch} {y : MethodName} {cc : ByteArray} {n : Nat} {ret : Option FieldType} {fr lw mc ms : Nat} {E : kE} {A : Nat → Prop} {C : kC} {L : kL} {av : List Value} {P : Option Value → kC → kL → Prop} {PX : String → Prop} (htr : l.stackTraces = false) (hy : plainName y.cls = true) (hlen : (lg_sl av).length ≤ n)
    (body : ∀ Γ : kG, Γ.2.1 = l → kRm Γ = ({ frames := fr, cells := mc, slots := ms, locals := lw } : Room) → kNl Γ = n → kX Γ E A cc y.cls → kEnd Γ E A P mc ms ret → kThr Γ E A PX C L mc ms → kW Γ E A C L 0 0 0 (lv_args 0 av) []) : kMX l y cc n ret fr lw mc ms E A C L av P PX := by
  refine vx_ofW (cc := cc) (maxL := n) (ret := ret) hy rfl ?_
  intro p e s m args below meth c s₁ B hml hnt hv
  obtain ⟨rfl, hp, hAm⟩ := hv
  have hts := atoms_spec (ws := .code y cc n ret :: wsL_law) B.pre
  have h9 := body (p, l, e, _, s, m, av.toArray, below, meth, c, _, n) rfl rfl rfl ⟨B.exec, B.bytes, hml, findClass_of_methodNamed B.named, fun w hw => hts w (List.mem_cons_of_mem _ hw), hAm, B.notSynchronized, htr⟩ ⟨B.returns, fun H locs g k => vx_ret k⟩ ⟨hnt, P, rfl⟩
  rw [lg_entry_eq]
  exact h9 s.heap [] _ hp va_S.rf (lv_entry av hlen)
end
section
theorem ki_X5_init : kI yX5_init cX5_init 2 0 := ⟨kb_5, kb_2, kb_6, rfl, (by decide +kernel), (by decide +kernel), (by decide +kernel)⟩
theorem ki_Jx4a65c_init_da8c8 : kI yJx4a65c_init_da8c8 cJx4a65c_init_da8c8 1 0 := ⟨kb_20, kb_12, kb_21, rfl, (by decide +kernel), (by decide +kernel), (by decide +kernel)⟩
theorem ki_Jxc12de_init_da8c8 : kI yJxc12de_init_da8c8 cJxc12de_init_da8c8 1 0 := ⟨kb_25, kb_26, kb_27, rfl, (by decide +kernel), (by decide +kernel), (by decide +kernel)⟩
theorem ki_Jxa1e45_init_da8c8 : kI yJxa1e45_init_da8c8 cJxa1e45_init_da8c8 1 0 := ⟨kb_30, kb_31, kb_32, rfl, (by decide +kernel), (by decide +kernel), (by decide +kernel)⟩
theorem ki_X1_init : kI yX1_init cX1_init 1 0 := ⟨kb_34, kb_18, kb_35, rfl, (by decide +kernel), (by decide +kernel), (by decide +kernel)⟩
theorem ks_L_drawn : kSt9 yL_drawn cL_drawn 2 (some .int) 2 := ⟨kb_51, kb_52, kb_53, (by decide +kernel), (by decide +kernel), (by decide +kernel)⟩
theorem ks_L_act : kSt9 yL_act cL_act 13 (some .int) 4 := ⟨kb_57, kb_52, kb_58, (by decide +kernel), (by decide +kernel), (by decide +kernel)⟩
theorem kv_X5_jobs : kV yX5_jobs cX5_jobs 1 (some .int) 0 := ⟨kb_60, kb_61, kb_2, kb_62, (by decide +kernel), (by decide +kernel), (by decide +kernel)⟩
theorem kv_Jx4a65c_size_8abf5 : kV yJx4a65c_size_8abf5 cJx4a65c_size_8abf5 1 (some .int) 0 := ⟨kb_64, kb_65, kb_12, kb_66, (by decide +kernel), (by decide +kernel), (by decide +kernel)⟩
theorem kv_X5_add : kV yX5_add cX5_add 3 (some .int) 2 := ⟨kb_76, kb_77, kb_2, kb_78, (by decide +kernel), (by decide +kernel), (by decide +kernel)⟩
theorem ks_X5_checkRange : kSt9 yX5_checkRange cX5_checkRange 3 none 3 := ⟨kb_85, kb_2, kb_86, (by decide +kernel), (by decide +kernel), (by decide +kernel)⟩
theorem ki_X3_init : kI yX3_init cX3_init 3 2 := ⟨kb_90, kb_83, kb_91, rfl, (by decide +kernel), (by decide +kernel), (by decide +kernel)⟩
theorem ki_X2_init : kI yX2_init cX2_init 1 0 := ⟨kb_99, kb_95, kb_100, rfl, (by decide +kernel), (by decide +kernel), (by decide +kernel)⟩
theorem kv_Jx4a65c_add_9ea2d : kV yJx4a65c_add_9ea2d cJx4a65c_add_9ea2d 2 (some .boolean) 1 := ⟨kb_107, kb_108, kb_12, kb_109, (by decide +kernel), (by decide +kernel), (by decide +kernel)⟩
theorem kv_Jx4a65c_add_72be8 : kV yJx4a65c_add_72be8 cJx4a65c_add_72be8 4 none 3 := ⟨kb_113, kb_114, kb_12, kb_115, (by decide +kernel), (by decide +kernel), (by decide +kernel)⟩
theorem kv_Jx4a65c_grow_d5877 : kV yJx4a65c_grow_d5877 cJx4a65c_grow_d5877 1 (some (.array (.object "java/lang/Object"))) 0 := ⟨kb_117, kb_118, kb_12, kb_119, (by decide +kernel), (by decide +kernel), (by decide +kernel)⟩
theorem kv_Jx4a65c_grow_92f84 : kV yJx4a65c_grow_92f84 cJx4a65c_grow_92f84 4 (some (.array (.object "java/lang/Object"))) 1 := ⟨kb_121, kb_122, kb_12, kb_123, (by decide +kernel), (by decide +kernel), (by decide +kernel)⟩
theorem ks_J8_newLength_cabcc : kSt9 yJ8_newLength_cabcc cJ8_newLength_cabcc 4 (some .int) 3 := ⟨kb_130, kb_131, kb_132, (by decide +kernel), (by decide +kernel), (by decide +kernel)⟩
theorem ks_J8_hugeLength_7cf53 : kSt9 yJ8_hugeLength_7cf53 cJ8_hugeLength_7cf53 3 (some .int) 2 := ⟨kb_136, kb_131, kb_137, (by decide +kernel), (by decide +kernel), (by decide +kernel)⟩
theorem ks_J7_copyOf_1904c : kSt9 yJ7_copyOf_1904c cJ7_copyOf_1904c 2 (some (.array (.object "java/lang/Object"))) 2 := ⟨kb_139, kb_140, kb_141, (by decide +kernel), (by decide +kernel), (by decide +kernel)⟩
theorem ks_J7_copyOf_6403c : kSt9 yJ7_copyOf_6403c cJ7_copyOf_6403c 4 (some (.array (.object "java/lang/Object"))) 3 := ⟨kb_147, kb_140, kb_148, (by decide +kernel), (by decide +kernel), (by decide +kernel)⟩
theorem kv_X5_give : kV yX5_give cX5_give 5 (some .int) 2 := ⟨kb_164, kb_165, kb_2, kb_166, (by decide +kernel), (by decide +kernel), (by decide +kernel)⟩
theorem kv_X5_jobAt : kV yX5_jobAt cX5_jobAt 2 (some (.object "FieldStore$Job")) 1 := ⟨kb_169, kb_170, kb_2, kb_171, (by decide +kernel), (by decide +kernel), (by decide +kernel)⟩
theorem kv_Jx4a65c_get_915e3 : kV yJx4a65c_get_915e3 cJx4a65c_get_915e3 2 (some (.object "java/lang/Object")) 1 := ⟨kb_176, kb_177, kb_12, kb_178, (by decide +kernel), (by decide +kernel), (by decide +kernel)⟩
theorem ks_J15_checkIndex_7cf53 : kSt9 yJ15_checkIndex_7cf53 cJ15_checkIndex_7cf53 2 (some .int) 2 := ⟨kb_180, kb_181, kb_182, (by decide +kernel), (by decide +kernel), (by decide +kernel)⟩
theorem ks_J3_checkIndex_8e157 : kSt9 yJ3_checkIndex_8e157 cJ3_checkIndex_8e157 3 (some .int) 3 := ⟨kb_184, kb_185, kb_186, (by decide +kernel), (by decide +kernel), (by decide +kernel)⟩
theorem kv_Jx4a65c_elementData_915e3 : kV yJx4a65c_elementData_915e3 cJx4a65c_elementData_915e3 2 (some (.object "java/lang/Object")) 1 := ⟨kb_188, kb_189, kb_12, kb_190, (by decide +kernel), (by decide +kernel), (by decide +kernel)⟩
theorem kv_X5_set : kV yX5_set cX5_set 5 (some .int) 3 := ⟨kb_195, kb_196, kb_2, kb_197, (by decide +kernel), (by decide +kernel), (by decide +kernel)⟩
theorem ks_X5_checkValue : kSt9 yX5_checkValue cX5_checkValue 2 none 2 := ⟨kb_200, kb_2, kb_201, (by decide +kernel), (by decide +kernel), (by decide +kernel)⟩
theorem ks_X5_checkField : kSt9 yX5_checkField cX5_checkField 1 none 1 := ⟨kb_203, kb_2, kb_204, (by decide +kernel), (by decide +kernel), (by decide +kernel)⟩
theorem kv_X2_put : kV yX2_put cX2_put 3 none 2 := ⟨kb_206, kb_207, kb_95, kb_208, (by decide +kernel), (by decide +kernel), (by decide +kernel)⟩
theorem kv_X2_versionOf : kV yX2_versionOf cX2_versionOf 2 (some .int) 1 := ⟨kb_210, kb_211, kb_95, kb_212, (by decide +kernel), (by decide +kernel), (by decide +kernel)⟩
theorem kv_X5_setRoom : kV yX5_setRoom cX5_setRoom 5 (some .int) 2 := ⟨kb_217, kb_218, kb_2, kb_219, (by decide +kernel), (by decide +kernel), (by decide +kernel)⟩
theorem kv_X5_deviceAt : kV yX5_deviceAt cX5_deviceAt 2 (some (.object "FieldStore$Device")) 1 := ⟨kb_222, kb_223, kb_2, kb_224, (by decide +kernel), (by decide +kernel), (by decide +kernel)⟩
theorem kv_X5_fetch : kV yX5_fetch cX5_fetch 3 (some .int) 1 := ⟨kb_229, kb_230, kb_2, kb_231, (by decide +kernel), (by decide +kernel), (by decide +kernel)⟩
theorem kv_X1_dropCopies : kV yX1_dropCopies cX1_dropCopies 2 none 0 := ⟨kb_233, kb_234, kb_18, kb_235, (by decide +kernel), (by decide +kernel), (by decide +kernel)⟩
theorem kv_X5_copyJobs : kV yX5_copyJobs cX5_copyJobs 6 none 3 := ⟨kb_237, kb_238, kb_2, kb_239, (by decide +kernel), (by decide +kernel), (by decide +kernel)⟩
theorem kv_X1_hold : kV yX1_hold cX1_hold 4 none 2 := ⟨kb_243, kb_244, kb_18, kb_245, (by decide +kernel), (by decide +kernel), (by decide +kernel)⟩
theorem kv_X2_copyFrom : kV yX2_copyFrom cX2_copyFrom 2 none 1 := ⟨kb_247, kb_248, kb_95, kb_249, (by decide +kernel), (by decide +kernel), (by decide +kernel)⟩
theorem kv_X1_heldCount : kV yX1_heldCount cX1_heldCount 1 (some .int) 0 := ⟨kb_251, kb_252, kb_18, kb_253, (by decide +kernel), (by decide +kernel), (by decide +kernel)⟩
theorem kv_X5_change : kV yX5_change cX5_change 7 (some .int) 4 := ⟨kb_258, kb_259, kb_2, kb_260, (by decide +kernel), (by decide +kernel), (by decide +kernel)⟩
theorem ks_X5_fieldsHeld : kSt9 yX5_fieldsHeld cX5_fieldsHeld 3 (some (.object "FieldStore$Fields")) 2 := ⟨kb_262, kb_2, kb_263, (by decide +kernel), (by decide +kernel), (by decide +kernel)⟩
theorem kv_X1_heldFields : kV yX1_heldFields cX1_heldFields 4 (some (.object "FieldStore$Fields")) 1 := ⟨kb_265, kb_266, kb_18, kb_267, (by decide +kernel), (by decide +kernel), (by decide +kernel)⟩
theorem kv_X1_madeJob : kV yX1_madeJob cX1_madeJob 2 (some (.object "FieldStore$Made")) 1 := ⟨kb_271, kb_272, kb_18, kb_273, (by decide +kernel), (by decide +kernel), (by decide +kernel)⟩
theorem kv_X1_takesActs : kV yX1_takesActs cX1_takesActs 1 (some .boolean) 0 := ⟨kb_278, kb_279, kb_18, kb_280, (by decide +kernel), (by decide +kernel), (by decide +kernel)⟩
theorem kv_X1_changeJob : kV yX1_changeJob cX1_changeJob 5 none 4 := ⟨kb_282, kb_283, kb_18, kb_284, (by decide +kernel), (by decide +kernel), (by decide +kernel)⟩
theorem ki_X0_init : kI yX0_init cX0_init 5 4 := ⟨kb_290, kb_287, kb_291, rfl, (by decide +kernel), (by decide +kernel), (by decide +kernel)⟩
theorem kv_X1_waitingCount : kV yX1_waitingCount cX1_waitingCount 1 (some .int) 0 := ⟨kb_301, kb_302, kb_18, kb_303, (by decide +kernel), (by decide +kernel), (by decide +kernel)⟩
theorem kv_X5_make : kV yX5_make cX5_make 4 (some .int) 2 := ⟨kb_308, kb_309, kb_2, kb_310, (by decide +kernel), (by decide +kernel), (by decide +kernel)⟩
theorem kv_X1_makeJob : kV yX1_makeJob cX1_makeJob 3 (some .int) 1 := ⟨kb_312, kb_313, kb_18, kb_314, (by decide +kernel), (by decide +kernel), (by decide +kernel)⟩
theorem ki_X4_init : kI yX4_init cX4_init 1 0 := ⟨kb_318, kb_317, kb_319, rfl, (by decide +kernel), (by decide +kernel), (by decide +kernel)⟩
theorem kv_X5_waiting : kV yX5_waiting cX5_waiting 2 (some .int) 1 := ⟨kb_328, kb_329, kb_2, kb_330, (by decide +kernel), (by decide +kernel), (by decide +kernel)⟩
theorem kv_X5_send : kV yX5_send cX5_send 8 (some .int) 2 := ⟨kb_335, kb_336, kb_2, kb_337, (by decide +kernel), (by decide +kernel), (by decide +kernel)⟩
theorem kv_X1_takeAct : kV yX1_takeAct cX1_takeAct 2 (some (.object "FieldStore$Act")) 0 := ⟨kb_339, kb_340, kb_18, kb_341, (by decide +kernel), (by decide +kernel), (by decide +kernel)⟩
theorem kv_X5_deliver : kV yX5_deliver cX5_deliver 4 (some .int) 3 := ⟨kb_344, kb_345, kb_2, kb_346, (by decide +kernel), (by decide +kernel), (by decide +kernel)⟩
theorem kv_X5_deliverMaking : kV yX5_deliverMaking cX5_deliverMaking 5 (some .int) 3 := ⟨kb_349, kb_350, kb_2, kb_351, (by decide +kernel), (by decide +kernel), (by decide +kernel)⟩
theorem kv_X1_giveNumber : kV yX1_giveNumber cX1_giveNumber 3 none 2 := ⟨kb_356, kb_357, kb_18, kb_358, (by decide +kernel), (by decide +kernel), (by decide +kernel)⟩
theorem kv_X5_deliverChange : kV yX5_deliverChange cX5_deliverChange 6 (some .int) 3 := ⟨kb_361, kb_362, kb_2, kb_363, (by decide +kernel), (by decide +kernel), (by decide +kernel)⟩
theorem kv_X1_centralNumber : kV yX1_centralNumber cX1_centralNumber 3 (some .int) 1 := ⟨kb_366, kb_367, kb_18, kb_368, (by decide +kernel), (by decide +kernel), (by decide +kernel)⟩
theorem ks_X5_isStep : kSt9 yX5_isStep cX5_isStep 2 (some .boolean) 2 := ⟨kb_370, kb_2, kb_371, (by decide +kernel), (by decide +kernel), (by decide +kernel)⟩
theorem kv_X1_refuse : kV yX1_refuse cX1_refuse 3 none 2 := ⟨kb_373, kb_374, kb_18, kb_375, (by decide +kernel), (by decide +kernel), (by decide +kernel)⟩
theorem ks_L_refuses : kSt9 yL_refuses cL_refuses 8 (some .boolean) 3 := ⟨kb_378, kb_52, kb_379, (by decide +kernel), (by decide +kernel), (by decide +kernel)⟩
theorem kv_X5_crew : kV yX5_crew cX5_crew 2 (some .int) 1 := ⟨kb_384, kb_385, kb_2, kb_386, (by decide +kernel), (by decide +kernel), (by decide +kernel)⟩
theorem kv_X5_site : kV yX5_site cX5_site 2 (some .int) 1 := ⟨kb_391, kb_392, kb_2, kb_393, (by decide +kernel), (by decide +kernel), (by decide +kernel)⟩
theorem kv_X5_value : kV yX5_value cX5_value 4 (some .int) 2 := ⟨kb_399, kb_400, kb_2, kb_401, (by decide +kernel), (by decide +kernel), (by decide +kernel)⟩
theorem kv_X2_valueOf : kV yX2_valueOf cX2_valueOf 2 (some .int) 1 := ⟨kb_403, kb_404, kb_95, kb_405, (by decide +kernel), (by decide +kernel), (by decide +kernel)⟩
theorem kv_X5_version : kV yX5_version cX5_version 4 (some .int) 2 := ⟨kb_410, kb_411, kb_2, kb_412, (by decide +kernel), (by decide +kernel), (by decide +kernel)⟩
theorem kv_X5_held : kV yX5_held cX5_held 2 (some .int) 1 := ⟨kb_417, kb_418, kb_2, kb_419, (by decide +kernel), (by decide +kernel), (by decide +kernel)⟩
theorem kv_X5_holds : kV yX5_holds cX5_holds 3 (some .boolean) 2 := ⟨kb_424, kb_425, kb_2, kb_426, (by decide +kernel), (by decide +kernel), (by decide +kernel)⟩
theorem kv_X5_heldValue : kV yX5_heldValue cX5_heldValue 5 (some .int) 3 := ⟨kb_431, kb_432, kb_2, kb_433, (by decide +kernel), (by decide +kernel), (by decide +kernel)⟩
theorem kv_X5_numberOf : kV yX5_numberOf cX5_numberOf 4 (some .int) 2 := ⟨kb_438, kb_439, kb_2, kb_440, (by decide +kernel), (by decide +kernel), (by decide +kernel)⟩
theorem kv_X5_pile : kV yX5_pile cX5_pile 2 (some .int) 1 := ⟨kb_446, kb_447, kb_2, kb_448, (by decide +kernel), (by decide +kernel), (by decide +kernel)⟩
theorem kv_X5_reason : kV yX5_reason cX5_reason 3 (some .int) 2 := ⟨kb_454, kb_455, kb_2, kb_456, (by decide +kernel), (by decide +kernel), (by decide +kernel)⟩
theorem kv_X5_refusedAt : kV yX5_refusedAt cX5_refusedAt 4 (some (.object "FieldStore$Act")) 2 := ⟨kb_459, kb_460, kb_2, kb_461, (by decide +kernel), (by decide +kernel), (by decide +kernel)⟩
theorem kv_X5_refusedValue : kV yX5_refusedValue cX5_refusedValue 3 (some .int) 2 := ⟨kb_467, kb_468, kb_2, kb_469, (by decide +kernel), (by decide +kernel), (by decide +kernel)⟩
theorem ks_L_alike : kSt9 yL_alike cL_alike 6 (some .boolean) 3 := ⟨kb_471, kb_52, kb_472, (by decide +kernel), (by decide +kernel), (by decide +kernel)⟩
theorem kv_X5_done : kV yX5_done cX5_done 1 (some .int) 0 := ⟨kb_474, kb_475, kb_2, kb_476, (by decide +kernel), (by decide +kernel), (by decide +kernel)⟩
theorem ks_L_holdsAll : kSt9 yL_holdsAll cL_holdsAll 11 (some .boolean) 3 := ⟨kb_478, kb_52, kb_479, (by decide +kernel), (by decide +kernel), (by decide +kernel)⟩
theorem ks_L_fresh : kSt9 yL_fresh cL_fresh 13 (some .boolean) 3 := ⟨kb_481, kb_52, kb_482, (by decide +kernel), (by decide +kernel), (by decide +kernel)⟩
end
section
theorem kup_kup {α : Type} {f : kT → α} {t : kT} {v w : α} : kup (kup f t v) t w = kup f t w := by
  funext x
  by_cases h : x = t
  · rw [h, kup_s, kup_s]
  · rw [kup_n h, kup_n h, kup_n h]
theorem kup_id {α : Type} {f : kT → α} {t : kT} : kup f t (f t) = f := by
  funext x
  by_cases h : x = t
  · rw [h, kup_s]
  · rw [kup_n h]
theorem kne1 {f g d e k j : Nat} (h : f ≠ g) : ((f, d, k) : kT) ≠ (g, e, j) := fun z => h (congrArg Prod.fst z)
theorem kne2 {f d e k j : Nat} (h : d ≠ e) : ((f, d, k) : kT) ≠ (f, e, j) := fun z => h (congrArg (fun x : kT => x.2.1) z)
theorem kne3 {f d k j : Nat} (h : k ≠ j) : ((f, d, k) : kT) ≠ (f, d, j) := fun z => h (congrArg (fun x : kT => x.2.2) z)
theorem kz0 : narrow .boolean (.int (nI 0)) = .int (nI 0) := rfl
theorem kz1 : narrow .boolean (.int (nI 1)) = .int (nI 1) := rfl
theorem kz_of {x : Int32} (h : x = nI 0 ∨ x = nI 1) : narrow .boolean (.int x) = .int x := by
  rcases h with h | h
  · rw [h]; exact kz0
  · rw [h]; exact kz1
section KR6
variable {Γ : kG} {E : kE} {A : Nat → Prop} {cc : ByteArray} {own : String} {C : kC} {L : kL} {cells slots pc : Nat} {lo : List (Nat × Value)} {rest : List Value}
theorem k_iaddN (X : kX Γ E A cc own) {a b : Nat} (hdg : decode cc pc = .ok (.iadd, 1)) (k : kW Γ E A C L cells slots (pc + 1) lo (.int (nI (a + b)) :: rest)) : kW Γ E A C L cells slots pc lo (.int (nI b) :: .int (nI a) :: rest) := k_iadd X hdg (by rw [nI_add]; exact k)
theorem k_imulN (X : kX Γ E A cc own) {a b : Nat} (hdg : decode cc pc = .ok (.imul, 1)) (k : kW Γ E A C L cells slots (pc + 1) lo (.int (nI (a * b)) :: rest)) : kW Γ E A C L cells slots pc lo (.int (nI b) :: .int (nI a) :: rest) := k_imul X hdg (by rw [pk_mul]; exact k)
theorem k_isubN (X : kX Γ E A cc own) {a b : Nat} (h : b ≤ a) (hdg : decode cc pc = .ok (.isub, 1)) (k : kW Γ E A C L cells slots (pc + 1) lo (.int (nI (a - b)) :: rest)) : kW Γ E A C L cells slots pc lo (.int (nI b) :: .int (nI a) :: rest) := k_isub X hdg (by rw [pk_sub h]; exact k)
/-- another name for the number on top -/
theorem k_rw {x y : Int32} (h : x = y) (k : kW Γ E A C L cells slots pc lo (.int y :: rest)) : kW Γ E A C L cells slots pc lo (.int x :: rest) := by rw [h]; exact k
theorem k_put1 (X : kX Γ E A cc own) {t : kT} {a : Nat} {ci : Nat} {fs fs9 : List Value} (hC : C t = some (.inr (ci, fs))) {q : vw_C} (hc : vwCl[ci]? = some q) (hin : ∀ w ∈ u_ws q.1 q.2.1 q.2.2, w ∈ wsL_law) (ty0 : Nat → FieldType) (hty : ∀ k, k < q.2.2 → parseFieldDescriptor (q.2.1 k).2.2.1 = some (ty0 k)) (hnm : ∀ a, a < q.2.2 → ∀ b, b < q.2.2 → a ≠ b → (q.2.1 a).2.1 ≠ (q.2.1 b).2.1) (k : Nat) {v : Value} {index : Nat} {ref : String} (hk : k < q.2.2) (hlink : Cond.fieldLink own index ref (q.2.1 k).2.1 (q.2.1 k).2.2.1 ∈ wsL_law) (hsame : ref = (q.2.1 k).1 ∨ Cond.sameField ref (q.2.1 k).1 (q.2.1 k).2.1 (q.2.1 k).2.2.1 ∈ wsL_law) (hfin : (q.2.1 k).2.2.2 = false ∨ ((kMe Γ).name = "<init>" ∧ (q.2.1 k).1 = own)) (ha : L t = a) (hn : narrow (ty0 k) v = v) (hfit : fits (ty0 k) v = true) (hl9 : k < fs.length) (hfs : fs.set k v = fs9) (hdg : decode cc pc = .ok (.putfield index, 3)) (k9 : kW Γ E A (kup C t (some (.inr (ci, fs9)))) L cells slots (pc + 3) lo rest) : kW Γ E A C L cells slots pc lo (v :: .ref a :: rest) :=
  k_put0 X hC hc hin ty0 hty hnm k hk hlink hsame hfin ha hn hfit hl9 hdg (by rw [hfs]; exact k9)
theorem k_putS (X : kX Γ E A cc own) {t : kT} {a : Nat} {ci : Nat} {fs fs9 : List Value} {q : vw_C} (hc : vwCl[ci]? = some q) (hin : ∀ w ∈ u_ws q.1 q.2.1 q.2.2, w ∈ wsL_law) (ty0 : Nat → FieldType) (hty : ∀ k, k < q.2.2 → parseFieldDescriptor (q.2.1 k).2.2.1 = some (ty0 k)) (hnm : ∀ a, a < q.2.2 → ∀ b, b < q.2.2 → a ≠ b → (q.2.1 a).2.1 ≠ (q.2.1 b).2.1) (k : Nat) {v : Value} {index : Nat} {ref : String} (hk : k < q.2.2) (hlink : Cond.fieldLink own index ref (q.2.1 k).2.1 (q.2.1 k).2.2.1 ∈ wsL_law) (hsame : ref = (q.2.1 k).1 ∨ Cond.sameField ref (q.2.1 k).1 (q.2.1 k).2.1 (q.2.1 k).2.2.1 ∈ wsL_law) (hfin : (q.2.1 k).2.2.2 = false ∨ ((kMe Γ).name = "<init>" ∧ (q.2.1 k).1 = own)) (ha : L t = a) (hn : narrow (ty0 k) v = v) (hfit : fits (ty0 k) v = true) (hl9 : k < fs.length) (hfs : fs.set k v = fs9) (hdg : decode cc pc = .ok (.putfield index, 3)) (k9 : kW Γ E A (kup C t (some (.inr (ci, fs9)))) L cells slots (pc + 3) lo rest) : kW Γ E A (kup C t (some (.inr (ci, fs)))) L cells slots pc lo (v :: .ref a :: rest) :=
  k_put1 X kup_s hc hin ty0 hty hnm k hk hlink hsame hfin ha hn hfit hl9 hfs hdg (by rw [kup_kup]; exact k9)
end KR6
end
section
set_option maxHeartbeats 4000000 in
set_option maxRecDepth 100000 in
theorem c_X2_init {l : Launch} (htr : l.stackTraces = false) {E : kE} {A : Nat → Prop} {C : kC} {L : kL} {t : kT} {a b c d : Int32} (h : C t = some (.inr (3, [.int a, .int b, .int c, .int d]))) : kM l yX2_init cX2_init 1 none 1 12 0 0 E A C L [.ref (L t)] (fun v C' L' => v = none ∧ L = L' ∧ C' = kup C t (some (.inr (3, [.int (nI 0), .int (nI 0), .int (nI 0), .int (nI 0)])))) := by
  refine kM.of htr (by decide) (Nat.le_of_ble_eq_true rfl) (fun Γ hl hR hN hnm X hE => ?_)
  refine k_lo (lo' := [(0, .ref (L t))]) ⟨rfl, trivial⟩ ?_
  refine k_aload_n X dX2_init_0 rfl rfl ?_
  refine k_objInit X kb_101 kb_8 kb_9 (by rw [hR]; exact Nat.le_of_ble_eq_true rfl) (by rw [hR]; exact Nat.le_of_ble_eq_true rfl) dX2_init_1 ?_
  refine k_aload_n X dX2_init_4 rfl rfl ?_
  refine k_iconst (v := (nI 0)) X dX2_init_5 (by decide) ?_
  refine k_put1 X h (fs9 := [.int (nI 0), .int b, .int c, .int d]) (q := (RX2, TX2, 4)) rfl inlX2 tyX2 tyX2_ok nmX2 0 (by decide) kb_102 (Or.inl rfl) (Or.inl rfl) rfl rfl rfl (Nat.le_of_ble_eq_true rfl) rfl dX2_init_6 ?_
  refine k_aload_n X dX2_init_9 rfl rfl ?_
  refine k_iconst (v := (nI 0)) X dX2_init_10 (by decide) ?_
  refine k_putS X (fs9 := [.int (nI 0), .int (nI 0), .int c, .int d]) (q := (RX2, TX2, 4)) rfl inlX2 tyX2 tyX2_ok nmX2 1 (by decide) kb_103 (Or.inl rfl) (Or.inl rfl) rfl rfl rfl (Nat.le_of_ble_eq_true rfl) rfl dX2_init_11 ?_
  refine k_aload_n X dX2_init_14 rfl rfl ?_
  refine k_iconst (v := (nI 0)) X dX2_init_15 (by decide) ?_
  refine k_putS X (fs9 := [.int (nI 0), .int (nI 0), .int (nI 0), .int d]) (q := (RX2, TX2, 4)) rfl inlX2 tyX2 tyX2_ok nmX2 2 (by decide) kb_104 (Or.inl rfl) (Or.inl rfl) rfl rfl rfl (Nat.le_of_ble_eq_true rfl) rfl dX2_init_16 ?_
  refine k_aload_n X dX2_init_19 rfl rfl ?_
  refine k_iconst (v := (nI 0)) X dX2_init_20 (by decide) ?_
  refine k_putS X (fs9 := [.int (nI 0), .int (nI 0), .int (nI 0), .int (nI 0)]) (q := (RX2, TX2, 4)) rfl inlX2 tyX2 tyX2_ok nmX2 3 (by decide) kb_105 (Or.inl rfl) (Or.inl rfl) rfl rfl rfl (Nat.le_of_ble_eq_true rfl) rfl dX2_init_21 ?_
  exact k_vret X hE dX2_init_24 (by omega) (by omega) ⟨rfl, rfl, rfl⟩

set_option maxHeartbeats 4000000 in
set_option maxRecDepth 100000 in
theorem c_X2_valueOf {l : Launch} (htr : l.stackTraces = false) {E : kE} {A : Nat → Prop} {C : kC} {L : kL} {t : kT} {a b c d : Int32} (f : Int32) (h : C t = some (.inr (3, [.int a, .int b, .int c, .int d]))) : kM l yX2_valueOf cX2_valueOf 2 (some .int) 0 0 0 0 E A C L [.ref (L t), .int f] (fun v C' L' => v = some (.int (if f = nI 0 then a else b)) ∧ L = L' ∧ C = C') := by
  refine kM.of htr (by decide) (Nat.le_of_ble_eq_true rfl) (fun Γ hl hR hN hnm X hE => ?_)
  refine k_lo (lo' := [(0, .ref (L t)), (1, .int f)]) ⟨rfl, rfl, trivial⟩ ?_
  refine k_iload_n X dX2_valueOf_0 rfl rfl ?_
  refine k_if_ne (tgt := 11) X dX2_valueOf_1 (by decide) (fun c1 => ?_) (fun c1 => ?_)
  ·
    refine k_aload_n X dX2_valueOf_11 rfl rfl ?_
    refine k_get0 X h (q := (RX2, TX2, 4)) rfl inlX2 1 (by decide) kb_103 (Or.inl rfl) rfl rfl dX2_valueOf_12 ?_
    exact k_iret X hE dX2_valueOf_15 (by omega) (by omega) ⟨by simp [*, nI_0], rfl, rfl⟩
  ·
    refine k_aload_n X dX2_valueOf_4 rfl rfl ?_
    refine k_get0 X h (q := (RX2, TX2, 4)) rfl inlX2 0 (by decide) kb_102 (Or.inl rfl) rfl rfl dX2_valueOf_5 ?_
    refine k_goto (tgt := 15) X dX2_valueOf_8 (by decide) ?_
    exact k_iret X hE dX2_valueOf_15 (by omega) (by omega) ⟨by simp [*, nI_0], rfl, rfl⟩

set_option maxHeartbeats 4000000 in
set_option maxRecDepth 100000 in
theorem c_X2_versionOf {l : Launch} (htr : l.stackTraces = false) {E : kE} {A : Nat → Prop} {C : kC} {L : kL} {t : kT} {a b c d : Int32} (f : Int32) (h : C t = some (.inr (3, [.int a, .int b, .int c, .int d]))) : kM l yX2_versionOf cX2_versionOf 2 (some .int) 0 0 0 0 E A C L [.ref (L t), .int f] (fun v C' L' => v = some (.int (if f = nI 0 then c else d)) ∧ L = L' ∧ C = C') := by
  refine kM.of htr (by decide) (Nat.le_of_ble_eq_true rfl) (fun Γ hl hR hN hnm X hE => ?_)
  refine k_lo (lo' := [(0, .ref (L t)), (1, .int f)]) ⟨rfl, rfl, trivial⟩ ?_
  refine k_iload_n X dX2_versionOf_0 rfl rfl ?_
  refine k_if_ne (tgt := 11) X dX2_versionOf_1 (by decide) (fun c1 => ?_) (fun c1 => ?_)
  ·
    refine k_aload_n X dX2_versionOf_11 rfl rfl ?_
    refine k_get0 X h (q := (RX2, TX2, 4)) rfl inlX2 3 (by decide) kb_105 (Or.inl rfl) rfl rfl dX2_versionOf_12 ?_
    exact k_iret X hE dX2_versionOf_15 (by omega) (by omega) ⟨by simp [*, nI_0], rfl, rfl⟩
  ·
    refine k_aload_n X dX2_versionOf_4 rfl rfl ?_
    refine k_get0 X h (q := (RX2, TX2, 4)) rfl inlX2 2 (by decide) kb_104 (Or.inl rfl) rfl rfl dX2_versionOf_5 ?_
    refine k_goto (tgt := 15) X dX2_versionOf_8 (by decide) ?_
    exact k_iret X hE dX2_versionOf_15 (by omega) (by omega) ⟨by simp [*, nI_0], rfl, rfl⟩

set_option maxHeartbeats 4000000 in
set_option maxRecDepth 100000 in
theorem c_X2_put {l : Launch} (htr : l.stackTraces = false) {E : kE} {A : Nat → Prop} {C : kC} {L : kL} {t : kT} {a b c d : Int32} (f x : Int32) (h : C t = some (.inr (3, [.int a, .int b, .int c, .int d]))) : kM l yX2_put cX2_put 3 none 0 0 0 0 E A C L [.ref (L t), .int f, .int x] (fun v C' L' => v = none ∧ L = L' ∧ C' = kup C t (some (.inr (3, if f = nI 0 then [.int x, .int b, .int (c + 1), .int d] else [.int a, .int x, .int c, .int (d + 1)])))) := by
  refine kM.of htr (by decide) (Nat.le_of_ble_eq_true rfl) (fun Γ hl hR hN hnm X hE => ?_)
  refine k_lo (lo' := [(0, .ref (L t)), (1, .int f), (2, .int x)]) ⟨rfl, rfl, rfl, trivial⟩ ?_
  refine k_iload_n X dX2_put_0 rfl rfl ?_
  refine k_if_ne (tgt := 22) X dX2_put_1 (by decide) (fun c1 => ?_) (fun c1 => ?_)
  ·
    refine k_aload_n X dX2_put_22 rfl rfl ?_
    refine k_iload_n X dX2_put_23 rfl rfl ?_
    refine k_put1 X h (fs9 := [.int a, .int x, .int c, .int d]) (q := (RX2, TX2, 4)) rfl inlX2 tyX2 tyX2_ok nmX2 1 (by decide) kb_103 (Or.inl rfl) (Or.inl rfl) rfl rfl rfl (Nat.le_of_ble_eq_true rfl) rfl dX2_put_24 ?_
    refine k_aload_n X dX2_put_27 rfl rfl ?_
    refine k_dup X dX2_put_28 rfl ?_
    refine k_get0 X kup_s (q := (RX2, TX2, 4)) rfl inlX2 3 (by decide) kb_105 (Or.inl rfl) rfl rfl dX2_put_29 ?_
    refine k_iconst (v := (nI 1)) X dX2_put_32 (by decide) ?_
    refine k_iadd X dX2_put_33 ?_
    refine k_putS X (fs9 := [.int a, .int x, .int c, .int (d + (nI 1))]) (q := (RX2, TX2, 4)) rfl inlX2 tyX2 tyX2_ok nmX2 3 (by decide) kb_105 (Or.inl rfl) (Or.inl rfl) rfl rfl rfl (Nat.le_of_ble_eq_true rfl) rfl dX2_put_34 ?_
    exact k_vret X hE dX2_put_37 (by omega) (by omega) ⟨rfl, rfl, by simp [*, nI_0]; try rfl⟩
  ·
    refine k_aload_n X dX2_put_4 rfl rfl ?_
    refine k_iload_n X dX2_put_5 rfl rfl ?_
    refine k_put1 X h (fs9 := [.int x, .int b, .int c, .int d]) (q := (RX2, TX2, 4)) rfl inlX2 tyX2 tyX2_ok nmX2 0 (by decide) kb_102 (Or.inl rfl) (Or.inl rfl) rfl rfl rfl (Nat.le_of_ble_eq_true rfl) rfl dX2_put_6 ?_
    refine k_aload_n X dX2_put_9 rfl rfl ?_
    refine k_dup X dX2_put_10 rfl ?_
    refine k_get0 X kup_s (q := (RX2, TX2, 4)) rfl inlX2 2 (by decide) kb_104 (Or.inl rfl) rfl rfl dX2_put_11 ?_
    refine k_iconst (v := (nI 1)) X dX2_put_14 (by decide) ?_
    refine k_iadd X dX2_put_15 ?_
    refine k_putS X (fs9 := [.int x, .int b, .int (c + (nI 1)), .int d]) (q := (RX2, TX2, 4)) rfl inlX2 tyX2 tyX2_ok nmX2 2 (by decide) kb_104 (Or.inl rfl) (Or.inl rfl) rfl rfl rfl (Nat.le_of_ble_eq_true rfl) rfl dX2_put_16 ?_
    refine k_goto (tgt := 37) X dX2_put_19 (by decide) ?_
    exact k_vret X hE dX2_put_37 (by omega) (by omega) ⟨rfl, rfl, by simp [*, nI_0]; try rfl⟩

set_option maxHeartbeats 4000000 in
set_option maxRecDepth 100000 in
theorem c_X2_copyFrom {l : Launch} (htr : l.stackTraces = false) {E : kE} {A : Nat → Prop} {C : kC} {L : kL} {t u : kT} {a b c d a1 b1 c1 d1 : Int32} (hne : t ≠ u) (h : C t = some (.inr (3, [.int a, .int b, .int c, .int d]))) (g : C u = some (.inr (3, [.int a1, .int b1, .int c1, .int d1]))) : kM l yX2_copyFrom cX2_copyFrom 2 none 0 0 0 0 E A C L [.ref (L t), .ref (L u)] (fun v C' L' => v = none ∧ L = L' ∧ C' = kup C t (some (.inr (3, [.int a1, .int b1, .int c1, .int d1])))) := by
  refine kM.of htr (by decide) (Nat.le_of_ble_eq_true rfl) (fun Γ hl hR hN hnm X hE => ?_)
  refine k_lo (lo' := [(0, .ref (L t)), (1, .ref (L u))]) ⟨rfl, rfl, trivial⟩ ?_
  refine k_aload_n X dX2_copyFrom_0 rfl rfl ?_
  refine k_aload_n X dX2_copyFrom_1 rfl rfl ?_
  refine k_get0 X g (q := (RX2, TX2, 4)) rfl inlX2 0 (by decide) kb_102 (Or.inl rfl) rfl rfl dX2_copyFrom_2 ?_
  refine k_put1 X h (fs9 := [.int a1, .int b, .int c, .int d]) (q := (RX2, TX2, 4)) rfl inlX2 tyX2 tyX2_ok nmX2 0 (by decide) kb_102 (Or.inl rfl) (Or.inl rfl) rfl rfl rfl (Nat.le_of_ble_eq_true rfl) rfl dX2_copyFrom_5 ?_
  refine k_aload_n X dX2_copyFrom_8 rfl rfl ?_
  refine k_aload_n X dX2_copyFrom_9 rfl rfl ?_
  refine k_get0 X ((kup_n hne.symm).trans g) (q := (RX2, TX2, 4)) rfl inlX2 1 (by decide) kb_103 (Or.inl rfl) rfl rfl dX2_copyFrom_10 ?_
  refine k_putS X (fs9 := [.int a1, .int b1, .int c, .int d]) (q := (RX2, TX2, 4)) rfl inlX2 tyX2 tyX2_ok nmX2 1 (by decide) kb_103 (Or.inl rfl) (Or.inl rfl) rfl rfl rfl (Nat.le_of_ble_eq_true rfl) rfl dX2_copyFrom_13 ?_
  refine k_aload_n X dX2_copyFrom_16 rfl rfl ?_
  refine k_aload_n X dX2_copyFrom_17 rfl rfl ?_
  refine k_get0 X ((kup_n hne.symm).trans g) (q := (RX2, TX2, 4)) rfl inlX2 2 (by decide) kb_104 (Or.inl rfl) rfl rfl dX2_copyFrom_18 ?_
  refine k_putS X (fs9 := [.int a1, .int b1, .int c1, .int d]) (q := (RX2, TX2, 4)) rfl inlX2 tyX2 tyX2_ok nmX2 2 (by decide) kb_104 (Or.inl rfl) (Or.inl rfl) rfl rfl rfl (Nat.le_of_ble_eq_true rfl) rfl dX2_copyFrom_21 ?_
  refine k_aload_n X dX2_copyFrom_24 rfl rfl ?_
  refine k_aload_n X dX2_copyFrom_25 rfl rfl ?_
  refine k_get0 X ((kup_n hne.symm).trans g) (q := (RX2, TX2, 4)) rfl inlX2 3 (by decide) kb_105 (Or.inl rfl) rfl rfl dX2_copyFrom_26 ?_
  refine k_putS X (fs9 := [.int a1, .int b1, .int c1, .int d1]) (q := (RX2, TX2, 4)) rfl inlX2 tyX2 tyX2_ok nmX2 3 (by decide) kb_105 (Or.inl rfl) (Or.inl rfl) rfl rfl rfl (Nat.le_of_ble_eq_true rfl) rfl dX2_copyFrom_29 ?_
  exact k_vret X hE dX2_copyFrom_32 (by omega) (by omega) ⟨rfl, rfl, rfl⟩

set_option maxHeartbeats 4000000 in
set_option maxRecDepth 100000 in
theorem c_X0_init {l : Launch} (htr : l.stackTraces = false) {E : kE} {A : Nat → Prop} {C : kC} {L : kL} {t : kT} {a b c d e : Int32} (j f x y : Int32) (h : C t = some (.inr (1, [.int a, .int b, .int c, .int d, .int e]))) : kM l yX0_init cX0_init 5 none 1 12 0 0 E A C L [.ref (L t), .int j, .int f, .int x, .int y] (fun v C' L' => v = none ∧ L = L' ∧ C' = kup C t (some (.inr (1, [.int j, .int f, .int x, .int y, .int (-1)])))) := by
  refine kM.of htr (by decide) (Nat.le_of_ble_eq_true rfl) (fun Γ hl hR hN hnm X hE => ?_)
  refine k_lo (lo' := [(0, .ref (L t)), (1, .int j), (2, .int f), (3, .int x), (4, .int y)]) ⟨rfl, rfl, rfl, rfl, rfl, trivial⟩ ?_
  refine k_aload_n X dX0_init_0 rfl rfl ?_
  refine k_objInit X kb_292 kb_8 kb_9 (by rw [hR]; exact Nat.le_of_ble_eq_true rfl) (by rw [hR]; exact Nat.le_of_ble_eq_true rfl) dX0_init_1 ?_
  refine k_aload_n X dX0_init_4 rfl rfl ?_
  refine k_iconst (v := (-1)) X dX0_init_5 (by decide) ?_
  refine k_put1 X h (fs9 := [.int a, .int b, .int c, .int d, .int (-1)]) (q := (RX0, TX0, 5)) rfl inlX0 tyX0 tyX0_ok nmX0 4 (by decide) kb_293 (Or.inl rfl) (Or.inl rfl) rfl rfl rfl (Nat.le_of_ble_eq_true rfl) rfl dX0_init_6 ?_
  refine k_aload_n X dX0_init_9 rfl rfl ?_
  refine k_iload_n X dX0_init_10 rfl rfl ?_
  refine k_putS X (fs9 := [.int j, .int b, .int c, .int d, .int (-1)]) (q := (RX0, TX0, 5)) rfl inlX0 tyX0 tyX0_ok nmX0 0 (by decide) kb_294 (Or.inl rfl) (Or.inr ⟨hnm, rfl⟩) rfl rfl rfl (Nat.le_of_ble_eq_true rfl) rfl dX0_init_11 ?_
  refine k_aload_n X dX0_init_14 rfl rfl ?_
  refine k_iload_n X dX0_init_15 rfl rfl ?_
  refine k_putS X (fs9 := [.int j, .int f, .int c, .int d, .int (-1)]) (q := (RX0, TX0, 5)) rfl inlX0 tyX0 tyX0_ok nmX0 1 (by decide) kb_295 (Or.inl rfl) (Or.inr ⟨hnm, rfl⟩) rfl rfl rfl (Nat.le_of_ble_eq_true rfl) rfl dX0_init_16 ?_
  refine k_aload_n X dX0_init_19 rfl rfl ?_
  refine k_iload_n X dX0_init_20 rfl rfl ?_
  refine k_putS X (fs9 := [.int j, .int f, .int x, .int d, .int (-1)]) (q := (RX0, TX0, 5)) rfl inlX0 tyX0 tyX0_ok nmX0 2 (by decide) kb_296 (Or.inl rfl) (Or.inr ⟨hnm, rfl⟩) rfl rfl rfl (Nat.le_of_ble_eq_true rfl) rfl dX0_init_21 ?_
  refine k_aload_n X dX0_init_24 rfl rfl ?_
  refine k_iload X dX0_init_25 rfl ?_
  refine k_putS X (fs9 := [.int j, .int f, .int x, .int y, .int (-1)]) (q := (RX0, TX0, 5)) rfl inlX0 tyX0 tyX0_ok nmX0 3 (by decide) kb_297 (Or.inl rfl) (Or.inr ⟨hnm, rfl⟩) rfl rfl rfl (Nat.le_of_ble_eq_true rfl) rfl dX0_init_27 ?_
  exact k_vret X hE dX0_init_30 (by omega) (by omega) ⟨rfl, rfl, rfl⟩
end
section
theorem kp.move {E : kE} {A : Nat → Prop} {C : kC} {L : kL} {H : Heap} {u t : kT} {e : va_E} (h : kp E A C L H) (hu : C u = some e) (hut : u ≠ t) : kp E A (kup (kup C u none) t (some e)) (kup L t (L u)) H := by
  have key : ∀ (z : kT) (f : va_E), kup (kup C u none) t (some e) z = some f → ∃ z' : kT, C z' = some f ∧ kup L t (L u) z = L z' ∧ (z = t ∧ z' = u ∨ z ≠ t ∧ z' = z ∧ z ≠ u) := by
    intro z f hz
    by_cases hzt : z = t
    · subst hzt
      rw [kup_s] at hz
      cases hz
      exact ⟨u, hu, by rw [kup_s], Or.inl ⟨rfl, rfl⟩⟩
    · rw [kup_n hzt] at hz
      by_cases hzu : z = u
      · subst hzu; rw [kup_s] at hz; cases hz
      · rw [kup_n hzu] at hz
        exact ⟨z, hz, by rw [kup_n hzt], Or.inr ⟨hzt, rfl, hzu⟩⟩
  refine ⟨fun x f hx => ?_, fun x y f g hx hy hL => ?_⟩
  · obtain ⟨z, h1, h2, -⟩ := key x f hx
    rw [h2]
    exact h.1 z f h1
  · obtain ⟨z, h1, h2, h3⟩ := key x f hx
    obtain ⟨z', h4, h5, h6⟩ := key y g hy
    have hzz := h.2 z z' f g h1 h4 (h2.symm.trans (hL.trans h5))
    rcases h3 with ⟨a1, a2⟩ | ⟨a1, a2, a3⟩ <;> rcases h6 with ⟨b1, b2⟩ | ⟨b1, b2, b3⟩
    · rw [a1, b1]
    · exact absurd (b2.symm.trans (hzz.symm.trans a2)) b3
    · exact absurd (a2.symm.trans (hzz.trans b2)) a3
    · rw [← a2, ← b2]; exact hzz
theorem kp.L {E : kE} {A : Nat → Prop} {C : kC} {L L' : kL} {H : Heap} (h : kp E A C L H) (hL : ∀ x e, C x = some e → L' x = L x) : kp E A C L' H :=
  ⟨fun t e ht => by rw [hL t e ht]; exact h.1 t e ht, fun t u e f h1 h2 h3 => h.2 t u e f h1 h2 (by rw [← hL t e h1, ← hL u f h2]; exact h3)⟩
section KR7
variable {Γ : kG} {E : kE} {A : Nat → Prop} {cc : ByteArray} {own : String} {C : kC} {L : kL} {cells slots pc : Nat} {lo : List (Nat × Value)} {rest : List Value}
theorem k_move {u t : kT} {e : va_E} (hu : C u = some e) (hut : u ≠ t) (k9 : kW Γ E A (kup (kup C u none) t (some e)) (kup L t (L u)) cells slots pc lo rest) : kW Γ E A C L cells slots pc lo rest := by
  obtain ⟨p, l, e, R, s, m, args, below, meth, c, Q, nL⟩ := Γ
  exact fun H locs ls hp hS hl => k9 H locs ls (hp.move hu hut) hS hl
theorem k_L {L' : kL} (h : ∀ x e, C x = some e → L' x = L x) (k9 : kW Γ E A C L' cells slots pc lo rest) : kW Γ E A C L cells slots pc lo rest := by
  obtain ⟨p, l, e, R, s, m, args, below, meth, c, Q, nL⟩ := Γ
  exact fun H locs ls hp hS hl => k9 H locs ls (hp.L h) hS hl
theorem k_mmax (X : kX Γ E A cc own) {idx : Nat} (hlink : Cond.methodLink own idx Lib.Math.max.name ∈ wsL_law) (hst : Cond.static Lib.Math.max.name ∈ wsL_law) (hini : Cond.initialized "java/lang/Math" ∈ wsL_law) (hcode : Cond.code Lib.Math.max.name Lib.Math.max.code 2 (some .int) ∈ wsL_law) (hf : 1 ≤ (kRm Γ).frames) (hlo : (rest.map fun v => v.category).sum + 13 ≤ (kRm Γ).locals) (hc : cells ≤ (kRm Γ).cells) (hs : slots ≤ (kRm Γ).slots) {x y : Int32} (hdg : decode cc pc = .ok (.invokestatic idx, 3)) (k9 : kW Γ E A C L cells slots (pc + 3) lo (.int (if x < y then y else x) :: rest)) : kW Γ E A C L cells slots pc lo (.int y :: .int x :: rest) := by
  obtain ⟨p, l, e, R, s, m, args, below, meth, c, Q, nL⟩ := Γ
  obtain ⟨hx, hb, hml, hown, hts, hAm, hlk, htr⟩ := X
  exact fun H locs ls hp hS hl => va_mmax hx hb (hml.trans hl.1.symm) hown (hts _ hlink) (hts _ hst) (hts _ hini) (hts _ hcode) hf hlo hc hs hdg (k9 H locs ls hp hS hl)
theorem k_mmin (X : kX Γ E A cc own) {idx : Nat} (hlink : Cond.methodLink own idx Lib.Math.min.name ∈ wsL_law) (hst : Cond.static Lib.Math.min.name ∈ wsL_law) (hini : Cond.initialized "java/lang/Math" ∈ wsL_law) (hcode : Cond.code Lib.Math.min.name Lib.Math.min.code 2 (some .int) ∈ wsL_law) (hf : 1 ≤ (kRm Γ).frames) (hlo : (rest.map fun v => v.category).sum + 13 ≤ (kRm Γ).locals) (hc : cells ≤ (kRm Γ).cells) (hs : slots ≤ (kRm Γ).slots) {x y : Int32} (hdg : decode cc pc = .ok (.invokestatic idx, 3)) (k9 : kW Γ E A C L cells slots (pc + 3) lo (.int (if y < x then y else x) :: rest)) : kW Γ E A C L cells slots pc lo (.int y :: .int x :: rest) := by
  obtain ⟨p, l, e, R, s, m, args, below, meth, c, Q, nL⟩ := Γ
  obtain ⟨hx, hb, hml, hown, hts, hAm, hlk, htr⟩ := X
  exact fun H locs ls hp hS hl => va_mmin hx hb (hml.trans hl.1.symm) hown (hts _ hlink) (hts _ hst) (hts _ hini) (hts _ hcode) hf hlo hc hs hdg (k9 H locs ls hp hS hl)
abbrev k_gc : MethodName := ⟨"java/lang/Object", "getClass", "()Ljava/lang/Class;"⟩
/-- getClass() of a row of Object, and the constant that it is compared with: one number -/
theorem k_getC (X : kX Γ E A cc own) {t : kT} {a : Nat} {n9 : Nat} {f9 : Nat → Option Nat} {idx : Nat} (hC : C t = some (.inl (E.2.1 3, n9, .inr (.inr (.inr (.inr f9)))))) (ha : L t = a) (hlink : Cond.methodLink own idx k_gc ∈ wsL_law) (hsel : Cond.selects "[Ljava/lang/Object;" k_gc k_gc ∈ wsL_law) (hinst : Cond.instanceMethod k_gc ∈ wsL_law) (hnat : Cond.native k_gc ∈ wsL_law) (hf : 1 ≤ (kRm Γ).frames) (hlo : (rest.map fun v => v.category).sum + 14 ≤ (kRm Γ).locals) (hdg : decode cc pc = .ok (.invokevirtual idx, 3)) (k9 : kW Γ E A C L cells slots (pc + 3) lo (.ref E.2.2.2 :: rest)) : kW Γ E A C L cells slots pc lo (.ref a :: rest) := by
  obtain ⟨p, l, e, R, s, m, args, below, meth, c, Q, nL⟩ := Γ
  obtain ⟨hx, hb, hml, hown, hts, hAm, hlk, htr⟩ := X
  intro H locs ls hp hS hl
  subst ha
  refine va_getC hx hb (hml.trans hl.1.symm) hown (hts _ hlink) hAm.2.2.2.1.2.2.2.use (hts _ hsel) (hts _ hinst) (hts _ hnat) hAm.2.2.2.1.2.2.1 ⟨_, (hp.1 t _ hC).1, rfl, ?_⟩ hf hlo hdg (k9 H locs ls hp hS hl)
  exact va_nmO (hAm.1.2 3 _ rfl).2 (by decide)
theorem k_ldcM (X : kX Γ E A cc own) {idx : Nat} (hlink : Cond.classLink own idx "[Ljava/lang/Object;" ∈ wsL_law) (hdg : decode cc pc = .ok (.ldc idx, 2)) (k9 : kW Γ E A C L cells slots (pc + 2) lo (.ref E.2.2.2 :: rest)) : kW Γ E A C L cells slots pc lo rest := by
  obtain ⟨p, l, e, R, s, m, args, below, meth, c, Q, nL⟩ := Γ
  obtain ⟨hx, hb, hml, hown, hts, hAm, hlk, htr⟩ := X
  exact fun H locs ls hp hS hl => va_ldcM hx hb hown (hts _ hlink) hAm.2.2.2.1.2.2.1 hdg (k9 H locs ls hp hS hl)
/-- the shared empty row -/
theorem k_getsE (X : kX Γ E A cc own) {idx : Nat} (hlink : Cond.fieldLink own idx "java/util/ArrayList" "DEFAULTCAPACITY_EMPTY_ELEMENTDATA" "[Ljava/lang/Object;" ∈ wsL_law) (hdg : decode cc pc = .ok (.getstatic idx, 3)) (k9 : kW Γ E A C L cells slots (pc + 3) lo (.ref E.2.2.1 :: rest)) : kW Γ E A C L cells slots pc lo rest := by
  obtain ⟨p, l, e, R, s, m, args, below, meth, c, Q, nL⟩ := Γ
  obtain ⟨hx, hb, hml, hown, hts, hAm, hlk, htr⟩ := X
  exact fun H locs ls hp hS hl => va_gets hx hb hAm.2.2.2.1.1 hS hown (hts _ hlink) (fun _ h => h) hdg (k9 H locs ls hp hS hl)
theorem k_lenE (X : kX Γ E A cc own) (hdg : decode cc pc = .ok (.arraylength, 1)) (k9 : kW Γ E A C L cells slots (pc + 1) lo (.int (nI 0) :: rest)) : kW Γ E A C L cells slots pc lo (.ref E.2.2.1 :: rest) := by
  obtain ⟨p, l, e, R, s, m, args, below, meth, c, Q, nL⟩ := Γ
  obtain ⟨hx, hb, hml, hown, hts, hAm, hlk, htr⟩ := X
  exact fun H locs ls hp hS hl => va_tlen hx hb hAm.2.2.2.1.2.1 hS rfl hdg (k9 H locs ls hp hS hl)
/-- System.arraycopy from one row of Object to another, all that is in it of one known kind -/
theorem k_copyq (X : kX Γ E A cc own) {t u : kT} {a0 a idx n0 n1 : Nat} {f g : Nat → Option Nat} (hC0 : C t = some (.inl (E.2.1 3, n0, .inr (.inr (.inr (.inr f)))))) (hC1 : C u = some (.inl (E.2.1 3, n1, .inr (.inr (.inr (.inr g)))))) (ha0 : L t = a0) (ha1 : L u = a) {n ci : Nat} {r : vw_C} (hn : n < 2 ^ 31) (h0 : n ≤ n0) (h1 : n ≤ n1) (hc : vwCl[ci]? = some r) (hcas : (r.1, "java/lang/Object") ∈ kCas) (hel : ∀ i, i < n → ∀ y, f i = some y → ∃ (z : kT) (vs : List Value), L z = y ∧ C z = some (.inr (ci, vs)))
    (hlink : Cond.methodLink own idx arraycopyName ∈ wsL_law) (hnat : Cond.native arraycopyName ∈ wsL_law) (hst : Cond.static arraycopyName ∈ wsL_law) (hini : Cond.initialized "java/lang/System" ∈ wsL_law) (hf : 1 ≤ (kRm Γ).frames) (hlo : (rest.map fun v => v.category).sum + (nativeFrameWords "java/lang/System" "arraycopy" 5 + 11) ≤ (kRm Γ).locals) (hdg : decode cc pc = .ok (.invokestatic idx, 3))
    (k9 : kW Γ E A (kup C u (some (.inl (E.2.1 3, n1, .inr (.inr (.inr (.inr (va_cpy f g 0 0 n)))))))) L cells slots (pc + 3) lo rest) : kW Γ E A C L cells slots pc lo (.int (nI n) :: .int (nI 0) :: .ref a :: .int (nI 0) :: .ref a0 :: rest) := by
  obtain ⟨p, l, e, R, s, m, args, below, meth, c, Q, nL⟩ := Γ
  obtain ⟨hx, hb, hml, hown, hts, hAm, hlk, htr⟩ := X
  intro H locs ls hp hS hl
  subst ha0
  subst ha1
  have z0 : (nI 0).toNatClampNeg = 0 := by decide
  have zn : (nI n).toNatClampNeg = n := nI_clamp hn
  have zi : (nI n).toInt = (n : Int) := nI_toInt hn
  have zi0 : (nI 0).toInt = (0 : Int) := by decide
  have z1 : ¬ nI 0 < 0 := by decide
  have z2 : ¬ nI n < 0 := nI_pos hn
  intro T hT X
  have hc0 := (hp.1 t _ hC0).1
  have hc1 := (hp.1 u _ hC1).1
  obtain ⟨-, k0, hk0, cm0, hkk0⟩ := (hAm.1.2 3 _ rfl).1 n0 (fun j => va_rf (f j))
  obtain ⟨-, k1, hk1, cm1, hkk1⟩ := (hAm.1.2 3 _ rfl).1 n1 (fun j => va_rf (g j))
  obtain ⟨vm', X', step⟩ := X.arraycopy hx hown (hts _ hlink) (hts _ hnat) (hts _ hst) (hts _ hini) (src := L t) (dst := L u) (cs := vp_cell (E.2.1 3) (n0, .inr (.inr (.inr (.inr f))))) (cd := vp_cell (E.2.1 3) (n1, .inr (.inr (.inr (.inr g))))) (srcPos := nI 0) (destPos := nI 0) (n := nI n) (by rw [hT]; exact hc0) (by rw [hT]; exact hc1)
    (fun _ h => by cases h) (fun _ h => by cases h) (fun h => by cases h) (fun h => by cases h) hk0 hk1 hkk0 hkk1 rfl z1 z1 z2
    (by rw [zi0, zi]; show ¬ _ > ((arrV (E.2.1 3) n0 (fun j => va_rf (f j))).slots.size : Int); rw [arrV_size]; omega)
    (by rw [zi0, zi]; show ¬ _ > ((arrV (E.2.1 3) n1 (fun j => va_rf (g j))).slots.size : Int); rw [arrV_size]; omega)
    (fun vm₁ hal i hi => by
      rw [zn] at hi
      have e : (vp_cell (E.2.1 3) (n0, .inr (.inr (.inr (.inr f))))).slots.getD ((nI 0).toNatClampNeg + i) .null = va_rf (f i) := by
        show (arrV (E.2.1 3) n0 (fun j => va_rf (f j))).slots.getD _ _ = _
        rw [z0, Nat.zero_add, Array.getD_eq_getD_getElem?, arrV_read _ _ (by omega)]
        rfl
      rw [e]
      cases hy : f i with
      | none => exact ⟨rfl, trivial⟩
      | some y =>
        obtain ⟨z, vs, hz1, hz2⟩ := hel i hi y hy
        obtain ⟨cellV, g1, g2, g3⟩ := va_recv hAm.1 (hp.P hz2) (q0 := 0) hc rfl
        rw [hz1] at g1
        obtain ⟨kA, comp, r1, r2, r3, -⟩ := (hAm.1.2 3 _ rfl).2
        cases hk1.symm.trans r1
        cases hkk1.symm.trans r2
        obtain ⟨kC, hkC, -⟩ := Vm.findClass_spec g3
        obtain ⟨kE, hkE, -⟩ := Vm.findClass_spec r3
        obtain ⟨kC', hkC', -⟩ := hal.2.2 _ _ hkC
        obtain ⟨kE', hkE', -⟩ := hal.2.2 _ _ hkE
        refine ⟨rfl, cellV, (show T.heap[y]? = some cellV by rw [hT]; exact g1), (fun q h => by rw [h] at g2; cases g2), ⟨kC', hkC'⟩, ?_, ?_⟩
        · exact ⟨kE', hkE'⟩
        · show vm₁.assignable _ _ = true
          rw [hal.assignable]
          obtain ⟨c0, t1, f1, f2, f3⟩ := Cond.castable_spec (va_Nw.use (A := args) rfl (hAm.2.2.2.2.2.2.1 _ hcas))
          cases g3.symm.trans f1
          cases r3.symm.trans f2
          exact f3)
    (g := F0 m pc ls (.int (nI n) :: .int (nI 0) :: .ref (L u) :: .int (nI 0) :: .ref (L t) :: rest)) rfl (by exact hl.1.trans hml.symm) (rest := rest) rfl (by rw [hb]; exact hdg) hf (by show 2 * 0 + _ + _ ≤ _; have h9 : (rest.map fun v => v.category).sum + (nativeFrameWords "java/lang/System" "arraycopy" 5 + 11) ≤ R.locals := hlo; omega)
  have e1 : copied (vp_cell (E.2.1 3) (n0, .inr (.inr (.inr (.inr f))))) (vp_cell (E.2.1 3) (n1, .inr (.inr (.inr (.inr g))))) (nI 0) (nI 0) (nI n) = vp_cell (E.2.1 3) (n1, .inr (.inr (.inr (.inr (va_cpy f g 0 0 n))))) := by
    rw [vp_cell_q, vp_cell_q, vp_cell_q]
    rw [show va_cpy f g 0 0 n = va_cpy f g (nI 0).toNatClampNeg (nI 0).toNatClampNeg (nI n).toNatClampNeg by rw [z0, zn]]
    exact va_copied (fun z => va_rf z) (E.2.1 3) (E.2.1 3) f g (by rw [z0, zn]; omega)
  rw [e1] at X' step
  have hlt : L u < H.size := (Array.getElem?_eq_some_iff.mp hc1).1
  have hheap : ((T.setVm vm').setCell (L u) (vp_cell (E.2.1 3) (n1, .inr (.inr (.inr (.inr (va_cpy f g 0 0 n))))))).heap = H.setIfInBounds (L u) (vp_cell (E.2.1 3) (n1, .inr (.inr (.inr (.inr (va_cpy f g 0 0 n)))))) := by rw [← hT]; rfl
  have oq : ∀ q : Nat, q ≠ L u → (H.setIfInBounds (L u) (vp_cell (E.2.1 3) (n1, .inr (.inr (.inr (.inr (va_cpy f g 0 0 n)))))))[q]? = H[q]? := fun q hq => by simp [Array.getElem?_setIfInBounds, Ne.symm hq]
  obtain ⟨t9, a1, b1⟩ := k9 _ _ ls (hp.upd hC1 (show (H.setIfInBounds (L u) _)[L u]? = some _ by simp [Array.getElem?_setIfInBounds, hlt]) oq) ⟨by simp; exact hS.1, fun q g1 g2 => by
      rw [oq q (fun e => g2 (by rw [e]; exact (hp.1 u _ hC1).2))]
      exact hS.2.1 q g1 g2, fun q hq => by
      rcases List.mem_append.mp hq with h | h
      · exact hS.2.2 q h
      · obtain ⟨z, -, hz⟩ := List.mem_map.mp h
        rw [← hz]
        exact (hp.1 u _ hC1).2⟩ hl _ hheap X'
  exact ⟨t9, step t9 a1, b1⟩
end KR7
end
section
theorem kmaxh {n : Nat} (h : 2 ≤ n) (hn : n < 2 ^ 30) : (if nI 1 < nI (n / 2) then nI (n / 2) else nI 1) = nI (n / 2) := by
  by_cases c : 1 < n / 2
  · rw [if_pos (nI_lt c (by omega))]
  · rw [if_neg (nI_nlt (by omega) (by decide)), show n / 2 = 1 by omega]
theorem kshr1 {n : Nat} (hn : n < 2 ^ 31) : nI n >>> (nI 1 &&& 31) = nI (n / 2) := by
  have k := pk_shrN (n := n) hn (nI 1 &&& 31) 1 (by decide)
  rw [Nat.pow_one] at k
  exact k
theorem kargne {α : Type} {f : α → Prop} {a b : α} (h : f a) (h2 : ¬ f b) : a ≠ b := fun e => h2 (e ▸ h)

set_option maxHeartbeats 4000000 in
set_option maxRecDepth 100000 in
theorem c_J3_checkIndex {l : Launch} (htr : l.stackTraces = false) {E : kE} {A : Nat → Prop} {C : kC} {L : kL} (a b : Nat) (hab : a < b) (hb : b < 2 ^ 31) : kM l yJ3_checkIndex_8e157 cJ3_checkIndex_8e157 3 (some .int) 0 0 0 0 E A C L [.int (nI a), .int (nI b), .null] (fun v C' L' => v = some (.int (nI a)) ∧ L = L' ∧ C = C') := by
  refine kM.of htr (by decide) (Nat.le_of_ble_eq_true rfl) (fun Γ hl hR hN hnm X hE => ?_)
  refine k_lo (lo' := [(0, .int (nI a)), (1, .int (nI b)), (2, .null)]) ⟨rfl, rfl, rfl, trivial⟩ ?_
  refine k_iload_n X dJ3_checkIndex_8e157_0 rfl rfl ?_
  refine k_if_lt (tgt := 9) X dJ3_checkIndex_8e157_1 (by decide) (fun c1 => absurd c1 (nI_pos (by omega))) (fun c1 => ?_)
  refine k_iload_n X dJ3_checkIndex_8e157_4 rfl rfl ?_
  refine k_iload_n X dJ3_checkIndex_8e157_5 rfl rfl ?_
  refine k_icmp_lt (tgt := 16) X dJ3_checkIndex_8e157_6 (by decide) (fun c6 => ?_) (fun c6 => absurd (nI_lt hab hb) c6)
  refine k_iload_n X dJ3_checkIndex_8e157_16 rfl rfl ?_
  exact k_iret X hE dJ3_checkIndex_8e157_17 (by omega) (by omega) ⟨rfl, rfl, rfl⟩

set_option maxHeartbeats 4000000 in
set_option maxRecDepth 100000 in
theorem c_J15_checkIndex {l : Launch} (htr : l.stackTraces = false) {E : kE} {A : Nat → Prop} {C : kC} {L : kL} (a b : Nat) (hab : a < b) (hb : b < 2 ^ 31) : kM l yJ15_checkIndex_7cf53 cJ15_checkIndex_7cf53 2 (some .int) 1 22 0 0 E A C L [.int (nI a), .int (nI b)] (fun v C' L' => v = some (.int (nI a)) ∧ L = L' ∧ C = C') := by
  refine kM.of htr (by decide) (Nat.le_of_ble_eq_true rfl) (fun Γ hl hR hN hnm X hE => ?_)
  refine k_lo (lo' := [(0, .int (nI a)), (1, .int (nI b))]) ⟨rfl, rfl, trivial⟩ ?_
  refine k_iload_n X dJ15_checkIndex_7cf53_0 rfl rfl ?_
  refine k_iload_n X dJ15_checkIndex_7cf53_1 rfl rfl ?_
  refine k_null X dJ15_checkIndex_7cf53_2 ?_
  refine k_callS (rest := []) X ks_J3_checkIndex_8e157 kb_183 (c_J3_checkIndex X.tr a b hab hb) rfl rfl (Nat.le_of_ble_eq_true rfl) ⟨by rw [hR]; exact Nat.le_of_ble_eq_true rfl, by rw [hR]; exact Nat.le_of_ble_eq_true rfl⟩ ⟨by rw [hR]; exact Nat.le_of_ble_eq_true rfl, by rw [hR]; exact Nat.le_of_ble_eq_true rfl⟩ dJ15_checkIndex_7cf53_3 (fun v3 C9 L9 h9 => ?_)
  obtain ⟨rfl, rfl, rfl⟩ := h9
  exact k_iret X hE dJ15_checkIndex_7cf53_6 (by omega) (by omega) ⟨rfl, rfl, rfl⟩

set_option maxHeartbeats 4000000 in
set_option maxRecDepth 100000 in
theorem c_AL_size {l : Launch} (htr : l.stackTraces = false) {E : kE} {A : Nat → Prop} {C : kC} {L : kL} {th : kT} {m s : Int32} {v1 : Value} (h : C th = some (.inr (0, [.int m, v1, .int s]))) : kM l yJx4a65c_size_8abf5 cJx4a65c_size_8abf5 1 (some .int) 0 0 0 0 E A C L [.ref (L th)] (fun v C' L' => v = some (.int s) ∧ L = L' ∧ C = C') := by
  refine kM.of htr (by decide) (Nat.le_of_ble_eq_true rfl) (fun Γ hl hR hN hnm X hE => ?_)
  refine k_lo (lo' := [(0, .ref (L th))]) ⟨rfl, trivial⟩ ?_
  refine k_aload_n X dJx4a65c_size_8abf5_0 rfl rfl ?_
  refine k_get0 X h (q := (RJx4a65c, TJx4a65c, 3)) rfl inlJx4a65c 2 (by decide) kb_67 (Or.inl rfl) rfl rfl dJx4a65c_size_8abf5_1 ?_
  exact k_iret X hE dJx4a65c_size_8abf5_4 (by omega) (by omega) ⟨rfl, rfl, rfl⟩

set_option maxHeartbeats 4000000 in
set_option maxRecDepth 100000 in
theorem c_AL_elementData {l : Launch} (htr : l.stackTraces = false) {E : kE} {A : Nat → Prop} {C : kC} {L : kL} {th ta : kT} {m s : Int32} {n i y : Nat} {f : Nat → Option Nat} (h : C th = some (.inr (0, [.int m, .ref (L ta), .int s]))) (g : C ta = some (.inl (E.2.1 3, n, .inr (.inr (.inr (.inr f)))))) (hi : i < n) (hn : n < 2 ^ 31) (hf : f i = some y) : kM l yJx4a65c_elementData_915e3 cJx4a65c_elementData_915e3 2 (some (.object "java/lang/Object")) 0 0 0 0 E A C L [.ref (L th), .int (nI i)] (fun v C' L' => v = some (.ref y) ∧ L = L' ∧ C = C') := by
  refine kM.of htr (by decide) (Nat.le_of_ble_eq_true rfl) (fun Γ hl hR hN hnm X hE => ?_)
  refine k_lo (lo' := [(0, .ref (L th)), (1, .int (nI i))]) ⟨rfl, rfl, trivial⟩ ?_
  refine k_aload_n X dJx4a65c_elementData_915e3_0 rfl rfl ?_
  refine k_get0 X h (q := (RJx4a65c, TJx4a65c, 3)) rfl inlJx4a65c 1 (by decide) kb_23 (Or.inl rfl) rfl rfl dJx4a65c_elementData_915e3_1 ?_
  refine k_iload_n X dJx4a65c_elementData_915e3_4 rfl rfl ?_
  refine k_aald X g (nm := "java/lang/Object") rfl rfl (vp_in_nI hi (by omega)) dJx4a65c_elementData_915e3_5 (v := .ref y) (by rw [nI_clamp (by omega), hf]; rfl) ?_
  exact k_aret X hE (Or.inl ⟨_, rfl⟩) (Or.inr ⟨_, rfl⟩) dJx4a65c_elementData_915e3_6 (by omega) (by omega) ⟨rfl, rfl, rfl⟩

set_option maxHeartbeats 4000000 in
set_option maxRecDepth 100000 in
theorem c_AL_get {l : Launch} (htr : l.stackTraces = false) {E : kE} {A : Nat → Prop} {C : kC} {L : kL} {th ta : kT} {m : Int32} {n i y c9 : Nat} {f : Nat → Option Nat} (h : C th = some (.inr (0, [.int m, .ref (L ta), .int (nI c9)]))) (g : C ta = some (.inl (E.2.1 3, n, .inr (.inr (.inr (.inr f)))))) (hi : i < n) (hn : n < 2 ^ 31) (hf : f i = some y) (hic : i < c9) (hc9 : c9 < 2 ^ 31) : kM l yJx4a65c_get_915e3 cJx4a65c_get_915e3 2 (some (.object "java/lang/Object")) 2 43 0 0 E A C L [.ref (L th), .int (nI i)] (fun v C' L' => v = some (.ref y) ∧ L = L' ∧ C = C') := by
  refine kM.of htr (by decide) (Nat.le_of_ble_eq_true rfl) (fun Γ hl hR hN hnm X hE => ?_)
  refine k_lo (lo' := [(0, .ref (L th)), (1, .int (nI i))]) ⟨rfl, rfl, trivial⟩ ?_
  refine k_iload_n X dJx4a65c_get_915e3_0 rfl rfl ?_
  refine k_aload_n X dJx4a65c_get_915e3_1 rfl rfl ?_
  refine k_get0 X h (q := (RJx4a65c, TJx4a65c, 3)) rfl inlJx4a65c 2 (by decide) kb_67 (Or.inl rfl) rfl rfl dJx4a65c_get_915e3_2 ?_
  refine k_callS (rest := []) X ks_J15_checkIndex_7cf53 kb_179 (c_J15_checkIndex X.tr i c9 hic hc9) rfl rfl (Nat.le_of_ble_eq_true rfl) ⟨by rw [hR]; exact Nat.le_of_ble_eq_true rfl, by rw [hR]; exact Nat.le_of_ble_eq_true rfl⟩ ⟨by rw [hR]; exact Nat.le_of_ble_eq_true rfl, by rw [hR]; exact Nat.le_of_ble_eq_true rfl⟩ dJx4a65c_get_915e3_5 (fun v5 C9 L9 h9 => ?_)
  obtain ⟨rfl, rfl, rfl⟩ := h9
  refine k_pop X dJx4a65c_get_915e3_8 rfl ?_
  refine k_aload_n X dJx4a65c_get_915e3_9 rfl rfl ?_
  refine k_iload_n X dJx4a65c_get_915e3_10 rfl rfl ?_
  refine k_callV (rest := []) X kv_Jx4a65c_elementData_915e3 kb_187 (c_AL_elementData X.tr h g hi hn hf) h rfl rfl rfl rfl rfl (Nat.le_of_ble_eq_true rfl) ⟨by rw [hR]; exact Nat.le_of_ble_eq_true rfl, by rw [hR]; exact Nat.le_of_ble_eq_true rfl⟩ ⟨by rw [hR]; exact Nat.le_of_ble_eq_true rfl, by rw [hR]; exact Nat.le_of_ble_eq_true rfl⟩ dJx4a65c_get_915e3_11 (fun v11 C9 L9 h9 => ?_)
  obtain ⟨rfl, rfl, rfl⟩ := h9
  exact k_aret X hE (Or.inl ⟨_, rfl⟩) (Or.inr ⟨_, rfl⟩) dJx4a65c_get_915e3_14 (by omega) (by omega) ⟨rfl, rfl, rfl⟩

set_option maxHeartbeats 4000000 in
set_option maxRecDepth 100000 in
theorem c_newLength {l : Launch} (htr : l.stackTraces = false) {E : kE} {A : Nat → Prop} {C : kC} {L : kL} (n : Nat) (h2 : 2 ≤ n) (hn : n < 40000) : kM l yJ8_newLength_cabcc cJ8_newLength_cabcc 4 (some .int) 1 14 0 0 E A C L [.int (nI n), .int (nI 1), .int (nI (n / 2))] (fun v C' L' => v = some (.int (nI (n + n / 2))) ∧ L = L' ∧ C = C') := by
  refine kM.of htr (by decide) (Nat.le_of_ble_eq_true rfl) (fun Γ hl hR hN hnm X hE => ?_)
  refine k_lo (lo' := [(0, .int (nI n)), (1, .int (nI 1)), (2, .int (nI (n / 2)))]) ⟨rfl, rfl, rfl, trivial⟩ ?_
  refine k_iload_n X dJ8_newLength_cabcc_0 rfl rfl ?_
  refine k_iload_n X dJ8_newLength_cabcc_1 rfl rfl ?_
  refine k_iload_n X dJ8_newLength_cabcc_2 rfl rfl ?_
  refine k_mmax X kb_133 kb_125 kb_126 kb_127 (by rw [hR]; exact Nat.le_of_ble_eq_true rfl) (by rw [hR]; exact Nat.le_of_ble_eq_true rfl) (by rw [hR]; dsimp only; omega) (by rw [hR]; dsimp only; omega) dJ8_newLength_cabcc_3 ?_
  refine k_rw (y := (nI (n / 2))) (kmaxh h2 (by omega)) ?_
  refine k_iaddN X dJ8_newLength_cabcc_6 ?_
  refine k_istore_n X dJ8_newLength_cabcc_7 rfl (by rw [hN]; decide) ?_
  refine k_iconst (v := (nI 0)) X dJ8_newLength_cabcc_8 (by decide) ?_
  refine k_iload_n X dJ8_newLength_cabcc_9 rfl rfl ?_
  refine k_icmp_ge (tgt := 21) X dJ8_newLength_cabcc_10 (by decide) (fun c10 => absurd c10 (by rw [nI_0]; exact nI_nle (by omega) (by omega))) (fun c10 => ?_)
  refine k_iload_n X dJ8_newLength_cabcc_13 rfl rfl ?_
  refine k_ldc (v := 2147483639) X kb_134 dJ8_newLength_cabcc_14 ?_
  refine k_icmp_gt (tgt := 21) X dJ8_newLength_cabcc_16 (by decide) (fun c16 => absurd c16 (show ¬ nI 2147483639 < nI (n + n / 2) from nI_nlt (by omega) (by decide))) (fun c16 => ?_)
  refine k_iload_n X dJ8_newLength_cabcc_19 rfl rfl ?_
  exact k_iret X hE dJ8_newLength_cabcc_20 (by omega) (by omega) ⟨rfl, rfl, rfl⟩

set_option maxHeartbeats 4000000 in
set_option maxRecDepth 100000 in
theorem c_copyOf3 {l : Launch} (htr : l.stackTraces = false) {E : kE} {A : Nat → Prop} {C : kC} {L : kL} {t u : kT} {n : Nat} (N : Nat) {f : Nat → Option Nat} (h : C t = some (.inl (E.2.1 3, n, .inr (.inr (.inr (.inr f)))))) (hut : t ≠ u) (hnN : n ≤ N) (hN9 : N ≤ 100000) {ci : Nat} {r : vw_C} (hc : vwCl[ci]? = some r) (hcas : (r.1, "java/lang/Object") ∈ kCas) (hel : ∀ i, i < n → ∀ y, f i = some y → ∃ (z : kT) (vs : List Value), z ≠ u ∧ L z = y ∧ C z = some (.inr (ci, vs))) : kM l yJ7_copyOf_6403c cJ7_copyOf_6403c 4 (some (.array (.object "java/lang/Object"))) 1 40 1 N E A C L [.ref (L t), .int (nI N), .ref E.2.2.2] (fun v C' L' => ∃ q : Nat, v = some (.ref q) ∧ L' = kup L u q ∧ C' = kup C u (some (.inl (E.2.1 3, N, .inr (.inr (.inr (.inr (va_cpy f (fun _ => none) 0 0 n)))))))) := by
  refine kM.of htr (by decide) (Nat.le_of_ble_eq_true rfl) (fun Γ hl hR hN hnm X hE => ?_)
  refine k_lo (lo' := [(0, .ref (L t)), (1, .int (nI N)), (2, .ref E.2.2.2)]) ⟨rfl, rfl, rfl, trivial⟩ ?_
  refine k_aload_n X dJ7_copyOf_6403c_0 rfl rfl ?_
  refine k_ldcM X kb_149 dJ7_copyOf_6403c_1 ?_
  refine k_acmp_ne (tgt := 13) X dJ7_copyOf_6403c_3 (by decide) (fun c3 => absurd c3 (fun z => z rfl)) (fun c3 => ?_)
  refine k_iload_n X dJ7_copyOf_6403c_6 rfl rfl ?_
  refine k_newq X u 3 (N) (nm := "java/lang/Object") rfl (by simp) kb_150 (nI_pos (by omega)) (nI_clamp (by omega)) (by omega) dJ7_copyOf_6403c_7 (by rw [hR]; dsimp only; omega) (by rw [hR]; dsimp only; omega) (fun q9 => ?_)
  refine k_goto (tgt := 24) X dJ7_copyOf_6403c_10 (by decide) ?_
  refine k_astore_n X dJ7_copyOf_6403c_24 rfl (by rw [hN]; decide) ?_
  refine k_aload_n X dJ7_copyOf_6403c_25 rfl rfl ?_
  refine k_iconst (v := (nI 0)) X dJ7_copyOf_6403c_26 (by decide) ?_
  refine k_aload_n X dJ7_copyOf_6403c_27 rfl rfl ?_
  refine k_iconst (v := (nI 0)) X dJ7_copyOf_6403c_28 (by decide) ?_
  refine k_aload_n X dJ7_copyOf_6403c_29 rfl rfl ?_
  refine k_alen X ((kup_n hut).trans h) (ty := .object "java/lang/Object") rfl ((kup_n hut).trans rfl) dJ7_copyOf_6403c_30 ?_
  refine k_iload_n X dJ7_copyOf_6403c_31 rfl rfl ?_
  refine k_mmin X kb_151 kb_152 kb_126 kb_153 (by rw [hR]; exact Nat.le_of_ble_eq_true rfl) (by rw [hR]; exact Nat.le_of_ble_eq_true rfl) (by rw [hR]; dsimp only; omega) (by rw [hR]; dsimp only; omega) dJ7_copyOf_6403c_32 ?_
  refine k_rw (y := (nI n)) (if_neg (nI_nlt hnN (by omega))) ?_
  refine k_copyq X ((kup_n hut).trans h) kup_s ((kup_n hut).trans rfl) kup_s (n := n) (by omega) (Nat.le_refl n) hnN hc hcas (fun i hi y hy => by obtain ⟨z, vs, hz, h1, h2⟩ := hel i hi y hy; exact ⟨z, vs, (kup_n hz).trans h1, (kup_n hz).trans h2⟩) kb_154 kb_155 kb_156 kb_157 (by rw [hR]; exact Nat.le_of_ble_eq_true rfl) (by rw [hR]; exact Nat.le_of_ble_eq_true rfl) dJ7_copyOf_6403c_35 ?_
  refine k_aload_n X dJ7_copyOf_6403c_38 rfl rfl ?_
  exact k_aret X hE (Or.inr ⟨_, rfl⟩) (Or.inr ⟨_, rfl⟩) dJ7_copyOf_6403c_39 (by omega) (by omega) ⟨q9, rfl, rfl, kup_kup⟩

set_option maxHeartbeats 4000000 in
set_option maxRecDepth 100000 in
theorem c_copyOf2 {l : Launch} (htr : l.stackTraces = false) {E : kE} {A : Nat → Prop} {C : kC} {L : kL} {t u : kT} {n : Nat} (N : Nat) {f : Nat → Option Nat} (h : C t = some (.inl (E.2.1 3, n, .inr (.inr (.inr (.inr f)))))) (hut : t ≠ u) (hnN : n ≤ N) (hN9 : N ≤ 100000) {ci : Nat} {r : vw_C} (hc : vwCl[ci]? = some r) (hcas : (r.1, "java/lang/Object") ∈ kCas) (hel : ∀ i, i < n → ∀ y, f i = some y → ∃ (z : kT) (vs : List Value), z ≠ u ∧ L z = y ∧ C z = some (.inr (ci, vs))) : kM l yJ7_copyOf_1904c cJ7_copyOf_1904c 2 (some (.array (.object "java/lang/Object"))) 2 63 1 N E A C L [.ref (L t), .int (nI N)] (fun v C' L' => ∃ q : Nat, v = some (.ref q) ∧ L' = kup L u q ∧ C' = kup C u (some (.inl (E.2.1 3, N, .inr (.inr (.inr (.inr (va_cpy f (fun _ => none) 0 0 n)))))))) := by
  refine kM.of htr (by decide) (Nat.le_of_ble_eq_true rfl) (fun Γ hl hR hN hnm X hE => ?_)
  refine k_lo (lo' := [(0, .ref (L t)), (1, .int (nI N))]) ⟨rfl, rfl, trivial⟩ ?_
  refine k_aload_n X dJ7_copyOf_1904c_0 rfl rfl ?_
  refine k_iload_n X dJ7_copyOf_1904c_1 rfl rfl ?_
  refine k_aload_n X dJ7_copyOf_1904c_2 rfl rfl ?_
  refine k_getC X h rfl kb_142 kb_143 kb_144 kb_145 (by rw [hR]; exact Nat.le_of_ble_eq_true rfl) (by rw [hR]; exact Nat.le_of_ble_eq_true rfl) dJ7_copyOf_1904c_3 ?_
  refine k_callS (rest := []) X ks_J7_copyOf_6403c kb_146 (c_copyOf3 X.tr N h hut hnN hN9 hc hcas hel) rfl rfl (Nat.le_of_ble_eq_true rfl) ⟨by rw [hR]; exact Nat.le_of_ble_eq_true rfl, by rw [hR]; exact Nat.le_of_ble_eq_true rfl⟩ ⟨by rw [hR]; dsimp only; omega, by rw [hR]; dsimp only; omega⟩ dJ7_copyOf_1904c_6 (fun v6 C9 L9 h9 => ?_)
  obtain ⟨q9, rfl, rfl, rfl⟩ := h9
  exact k_aret X hE (Or.inr ⟨_, rfl⟩) (Or.inr ⟨_, rfl⟩) dJ7_copyOf_1904c_9 (by omega) (by omega) ⟨q9, rfl, rfl, rfl⟩

set_option maxHeartbeats 4000000 in
set_option maxRecDepth 100000 in
theorem c_grow1F {l : Launch} (htr : l.stackTraces = false) {E : kE} {A : Nat → Prop} {C : kC} {L : kL} {th ta u : kT} {m : Int32} {n : Nat} {f : Nat → Option Nat} (h : C th = some (.inr (0, [.int m, .ref (L ta), .int (nI n)]))) (g : C ta = some (.inl (E.2.1 3, n, .inr (.inr (.inr (.inr f)))))) (hha : th ≠ ta) (hhu : th ≠ u) (hau : ta ≠ u) (h2 : 2 ≤ n) (hn : n < 40000) {ci : Nat} {r : vw_C} (hc : vwCl[ci]? = some r) (hcas : (r.1, "java/lang/Object") ∈ kCas) (hel : ∀ i, i < n → ∀ y, f i = some y → ∃ (z : kT) (vs : List Value), z ≠ u ∧ L z = y ∧ C z = some (.inr (ci, vs))) : kM l yJx4a65c_grow_92f84 cJx4a65c_grow_92f84 4 (some (.array (.object "java/lang/Object"))) 3 84 1 (n + n / 2) E A C L [.ref (L th), .int (nI (n + 1))] (fun v C' L' => ∃ q : Nat, v = some (.ref q) ∧ L' = kup L u q ∧ C' = kup (kup C u (some (.inl (E.2.1 3, n + n / 2, .inr (.inr (.inr (.inr (va_cpy f (fun _ => none) 0 0 n)))))))) th (some (.inr (0, [.int m, .ref q, .int (nI n)])))) := by
  refine kM.of htr (by decide) (Nat.le_of_ble_eq_true rfl) (fun Γ hl hR hN hnm X hE => ?_)
  refine k_lo (lo' := [(0, .ref (L th)), (1, .int (nI (n + 1)))]) ⟨rfl, rfl, trivial⟩ ?_
  refine k_aload_n X dJx4a65c_grow_92f84_0 rfl rfl ?_
  refine k_get0 X h (q := (RJx4a65c, TJx4a65c, 3)) rfl inlJx4a65c 1 (by decide) kb_23 (Or.inl rfl) rfl rfl dJx4a65c_grow_92f84_1 ?_
  refine k_alen X g (ty := .object "java/lang/Object") rfl rfl dJx4a65c_grow_92f84_4 ?_
  refine k_istore_n X dJx4a65c_grow_92f84_5 rfl (by rw [hN]; decide) ?_
  refine k_iload_n X dJx4a65c_grow_92f84_6 rfl rfl ?_
  refine k_if_gt (tgt := 20) X dJx4a65c_grow_92f84_7 (by decide) (fun c7 => ?_) (fun c7 => absurd (show nI 0 < nI n from nI_lt (by omega) (by omega)) c7)
  refine k_iload_n X dJx4a65c_grow_92f84_20 rfl rfl ?_
  refine k_iload_n X dJx4a65c_grow_92f84_21 rfl rfl ?_
  refine k_iload_n X dJx4a65c_grow_92f84_22 rfl rfl ?_
  refine k_isubN (h := Nat.le_succ n) X dJx4a65c_grow_92f84_23 ?_
  refine k_rw (y := nI 1) (by rw [Nat.add_sub_cancel_left]) ?_
  refine k_iload_n X dJx4a65c_grow_92f84_24 rfl rfl ?_
  refine k_iconst (v := (nI 1)) X dJx4a65c_grow_92f84_25 (by decide) ?_
  refine k_ishr X dJx4a65c_grow_92f84_26 ?_
  refine k_rw (y := nI (n / 2)) (kshr1 (by omega)) ?_
  refine k_callS (rest := []) X ks_J8_newLength_cabcc kb_129 (c_newLength X.tr n h2 hn) rfl rfl (Nat.le_of_ble_eq_true rfl) ⟨by rw [hR]; exact Nat.le_of_ble_eq_true rfl, by rw [hR]; exact Nat.le_of_ble_eq_true rfl⟩ ⟨by rw [hR]; dsimp only; omega, by rw [hR]; dsimp only; omega⟩ dJx4a65c_grow_92f84_27 (fun v27 C9 L9 h9 => ?_)
  obtain ⟨rfl, rfl, rfl⟩ := h9
  refine k_istore_n X dJx4a65c_grow_92f84_30 rfl (by rw [hN]; decide) ?_
  refine k_aload_n X dJx4a65c_grow_92f84_31 rfl rfl ?_
  refine k_aload_n X dJx4a65c_grow_92f84_32 rfl rfl ?_
  refine k_get0 X h (q := (RJx4a65c, TJx4a65c, 3)) rfl inlJx4a65c 1 (by decide) kb_23 (Or.inl rfl) rfl rfl dJx4a65c_grow_92f84_33 ?_
  refine k_iload_n X dJx4a65c_grow_92f84_36 rfl rfl ?_
  refine k_callS (rest := [.ref (L th)]) X ks_J7_copyOf_1904c kb_138 (c_copyOf2 X.tr (u := u) (n + n / 2) g hau (by omega) (by omega) hc hcas hel) rfl rfl (Nat.le_of_ble_eq_true rfl) ⟨by rw [hR]; exact Nat.le_of_ble_eq_true rfl, by rw [hR]; exact Nat.le_of_ble_eq_true rfl⟩ ⟨by rw [hR]; dsimp only; omega, by rw [hR]; dsimp only; omega⟩ dJx4a65c_grow_92f84_37 (fun v37 C9 L9 h9 => ?_)
  obtain ⟨q9, rfl, rfl, rfl⟩ := h9
  refine k_dup_x1 X dJx4a65c_grow_92f84_40 rfl rfl ?_
  refine k_put1 X ((kup_n hhu).trans h) (fs9 := [.int m, .ref q9, .int (nI n)]) (q := (RJx4a65c, TJx4a65c, 3)) rfl inlJx4a65c tyJx4a65c tyJx4a65c_ok nmJx4a65c 1 (by decide) kb_23 (Or.inl rfl) (Or.inl rfl) ((kup_n hhu).trans rfl) rfl rfl (Nat.le_of_ble_eq_true rfl) rfl dJx4a65c_grow_92f84_41 ?_
  exact k_aret X hE (Or.inr ⟨_, rfl⟩) (Or.inr ⟨_, rfl⟩) dJx4a65c_grow_92f84_44 (by omega) (by omega) ⟨q9, rfl, rfl, rfl⟩

set_option maxHeartbeats 4000000 in
set_option maxRecDepth 100000 in
theorem c_grow1E {l : Launch} (htr : l.stackTraces = false) {E : kE} {A : Nat → Prop} {C : kC} {L : kL} {th u : kT} {m : Int32} (h : C th = some (.inr (0, [.int m, .ref E.2.2.1, .int (nI 0)]))) (hhu : th ≠ u) : kM l yJx4a65c_grow_92f84 cJx4a65c_grow_92f84 4 (some (.array (.object "java/lang/Object"))) 1 14 1 10 E A C L [.ref (L th), .int (nI 1)] (fun v C' L' => ∃ q : Nat, v = some (.ref q) ∧ L' = kup L u q ∧ C' = kup (kup C u (some (.inl (E.2.1 3, 10, .inr (.inr (.inr (.inr (fun _ => none)))))))) th (some (.inr (0, [.int m, .ref q, .int (nI 0)])))) := by
  refine kM.of htr (by decide) (Nat.le_of_ble_eq_true rfl) (fun Γ hl hR hN hnm X hE => ?_)
  refine k_lo (lo' := [(0, .ref (L th)), (1, .int (nI 1))]) ⟨rfl, rfl, trivial⟩ ?_
  refine k_aload_n X dJx4a65c_grow_92f84_0 rfl rfl ?_
  refine k_get0 X h (q := (RJx4a65c, TJx4a65c, 3)) rfl inlJx4a65c 1 (by decide) kb_23 (Or.inl rfl) rfl rfl dJx4a65c_grow_92f84_1 ?_
  refine k_lenE X dJx4a65c_grow_92f84_4 ?_
  refine k_istore_n X dJx4a65c_grow_92f84_5 rfl (by rw [hN]; decide) ?_
  refine k_iload_n X dJx4a65c_grow_92f84_6 rfl rfl ?_
  refine k_if_gt (tgt := 20) X dJx4a65c_grow_92f84_7 (by decide) (fun c7 => absurd c7 (by decide)) (fun c7 => ?_)
  refine k_aload_n X dJx4a65c_grow_92f84_10 rfl rfl ?_
  refine k_get0 X h (q := (RJx4a65c, TJx4a65c, 3)) rfl inlJx4a65c 1 (by decide) kb_23 (Or.inl rfl) rfl rfl dJx4a65c_grow_92f84_11 ?_
  refine k_getsE X kb_22 dJx4a65c_grow_92f84_14 ?_
  refine k_acmp_eq (tgt := 45) X dJx4a65c_grow_92f84_17 (by decide) (fun c17 => ?_) (fun c17 => absurd rfl c17)
  refine k_aload_n X dJx4a65c_grow_92f84_45 rfl rfl ?_
  refine k_bipush (v := (nI 10)) X dJx4a65c_grow_92f84_46 (by decide) ?_
  refine k_iload_n X dJx4a65c_grow_92f84_48 rfl rfl ?_
  refine k_mmax X kb_124 kb_125 kb_126 kb_127 (by rw [hR]; exact Nat.le_of_ble_eq_true rfl) (by rw [hR]; exact Nat.le_of_ble_eq_true rfl) (by rw [hR]; dsimp only; omega) (by rw [hR]; dsimp only; omega) dJx4a65c_grow_92f84_49 ?_
  refine k_rw (y := (nI 10)) (by decide) ?_
  refine k_newq X u 3 (10) (nm := "java/lang/Object") rfl (by simp) kb_128 (by decide) (by decide) (by decide) dJx4a65c_grow_92f84_52 (by rw [hR]; dsimp only; omega) (by rw [hR]; dsimp only; omega) (fun q9 => ?_)
  refine k_dup_x1 X dJx4a65c_grow_92f84_55 rfl rfl ?_
  refine k_put1 X ((kup_n hhu).trans h) (fs9 := [.int m, .ref q9, .int (nI 0)]) (q := (RJx4a65c, TJx4a65c, 3)) rfl inlJx4a65c tyJx4a65c tyJx4a65c_ok nmJx4a65c 1 (by decide) kb_23 (Or.inl rfl) (Or.inl rfl) ((kup_n hhu).trans rfl) rfl rfl (Nat.le_of_ble_eq_true rfl) rfl dJx4a65c_grow_92f84_56 ?_
  exact k_aret X hE (Or.inr ⟨_, rfl⟩) (Or.inr ⟨_, rfl⟩) dJx4a65c_grow_92f84_59 (by omega) (by omega) ⟨q9, rfl, rfl, rfl⟩

set_option maxHeartbeats 4000000 in
set_option maxRecDepth 100000 in
theorem c_grow0F {l : Launch} (htr : l.stackTraces = false) {E : kE} {A : Nat → Prop} {C : kC} {L : kL} {th ta u : kT} {m : Int32} {n : Nat} {f : Nat → Option Nat} (h : C th = some (.inr (0, [.int m, .ref (L ta), .int (nI n)]))) (g : C ta = some (.inl (E.2.1 3, n, .inr (.inr (.inr (.inr f)))))) (hha : th ≠ ta) (hhu : th ≠ u) (hau : ta ≠ u) (h2 : 2 ≤ n) (hn : n < 40000) {ci : Nat} {r : vw_C} (hc : vwCl[ci]? = some r) (hcas : (r.1, "java/lang/Object") ∈ kCas) (hel : ∀ i, i < n → ∀ y, f i = some y → ∃ (z : kT) (vs : List Value), z ≠ u ∧ L z = y ∧ C z = some (.inr (ci, vs))) : kM l yJx4a65c_grow_d5877 cJx4a65c_grow_d5877 1 (some (.array (.object "java/lang/Object"))) 4 107 1 (n + n / 2) E A C L [.ref (L th)] (fun v C' L' => ∃ q : Nat, v = some (.ref q) ∧ L' = kup L u q ∧ C' = kup (kup C u (some (.inl (E.2.1 3, n + n / 2, .inr (.inr (.inr (.inr (va_cpy f (fun _ => none) 0 0 n)))))))) th (some (.inr (0, [.int m, .ref q, .int (nI n)])))) := by
  refine kM.of htr (by decide) (Nat.le_of_ble_eq_true rfl) (fun Γ hl hR hN hnm X hE => ?_)
  refine k_lo (lo' := [(0, .ref (L th))]) ⟨rfl, trivial⟩ ?_
  refine k_aload_n X dJx4a65c_grow_d5877_0 rfl rfl ?_
  refine k_aload_n X dJx4a65c_grow_d5877_1 rfl rfl ?_
  refine k_get0 X h (q := (RJx4a65c, TJx4a65c, 3)) rfl inlJx4a65c 2 (by decide) kb_67 (Or.inl rfl) rfl rfl dJx4a65c_grow_d5877_2 ?_
  refine k_iconst (v := (nI 1)) X dJx4a65c_grow_d5877_5 (by decide) ?_
  refine k_iaddN X dJx4a65c_grow_d5877_6 ?_
  refine k_callV (rest := []) X kv_Jx4a65c_grow_92f84 kb_120 (c_grow1F X.tr h g hha hhu hau h2 hn hc hcas hel) h rfl rfl rfl rfl rfl (Nat.le_of_ble_eq_true rfl) ⟨by rw [hR]; exact Nat.le_of_ble_eq_true rfl, by rw [hR]; exact Nat.le_of_ble_eq_true rfl⟩ ⟨by rw [hR]; dsimp only; omega, by rw [hR]; dsimp only; omega⟩ dJx4a65c_grow_d5877_7 (fun v7 C9 L9 h9 => ?_)
  obtain ⟨q9, rfl, rfl, rfl⟩ := h9
  exact k_aret X hE (Or.inr ⟨_, rfl⟩) (Or.inr ⟨_, rfl⟩) dJx4a65c_grow_d5877_10 (by omega) (by omega) ⟨q9, rfl, rfl, rfl⟩

set_option maxHeartbeats 4000000 in
set_option maxRecDepth 100000 in
theorem c_grow0E {l : Launch} (htr : l.stackTraces = false) {E : kE} {A : Nat → Prop} {C : kC} {L : kL} {th u : kT} {m : Int32} (h : C th = some (.inr (0, [.int m, .ref E.2.2.1, .int (nI 0)]))) (hhu : th ≠ u) : kM l yJx4a65c_grow_d5877 cJx4a65c_grow_d5877 1 (some (.array (.object "java/lang/Object"))) 2 37 1 10 E A C L [.ref (L th)] (fun v C' L' => ∃ q : Nat, v = some (.ref q) ∧ L' = kup L u q ∧ C' = kup (kup C u (some (.inl (E.2.1 3, 10, .inr (.inr (.inr (.inr (fun _ => none)))))))) th (some (.inr (0, [.int m, .ref q, .int (nI 0)])))) := by
  refine kM.of htr (by decide) (Nat.le_of_ble_eq_true rfl) (fun Γ hl hR hN hnm X hE => ?_)
  refine k_lo (lo' := [(0, .ref (L th))]) ⟨rfl, trivial⟩ ?_
  refine k_aload_n X dJx4a65c_grow_d5877_0 rfl rfl ?_
  refine k_aload_n X dJx4a65c_grow_d5877_1 rfl rfl ?_
  refine k_get0 X h (q := (RJx4a65c, TJx4a65c, 3)) rfl inlJx4a65c 2 (by decide) kb_67 (Or.inl rfl) rfl rfl dJx4a65c_grow_d5877_2 ?_
  refine k_iconst (v := (nI 1)) X dJx4a65c_grow_d5877_5 (by decide) ?_
  refine k_iaddN X dJx4a65c_grow_d5877_6 ?_
  refine k_callV (rest := []) X kv_Jx4a65c_grow_92f84 kb_120 (c_grow1E X.tr h hhu) h rfl rfl rfl rfl rfl (Nat.le_of_ble_eq_true rfl) ⟨by rw [hR]; exact Nat.le_of_ble_eq_true rfl, by rw [hR]; exact Nat.le_of_ble_eq_true rfl⟩ ⟨by rw [hR]; exact Nat.le_of_ble_eq_true rfl, by rw [hR]; exact Nat.le_of_ble_eq_true rfl⟩ dJx4a65c_grow_d5877_7 (fun v7 C9 L9 h9 => ?_)
  obtain ⟨q9, rfl, rfl, rfl⟩ := h9
  exact k_aret X hE (Or.inr ⟨_, rfl⟩) (Or.inr ⟨_, rfl⟩) dJx4a65c_grow_d5877_10 (by omega) (by omega) ⟨q9, rfl, rfl, rfl⟩

theorem k_aastN {Γ : kG} {E : kE} {A : Nat → Prop} {cc : ByteArray} {own : String} {C : kC} {L : kL} {cells slots pc : Nat} {lo : List (Nat × Value)} {rest : List Value} (X : kX Γ E A cc own) {t u : kT} {a v : Nat} {n n9 j ci : Nat} {nm : String} {f : Nat → Option Nat} {r : vw_C} {vs : List Value} (hC : C t = some (.inl (E.2.1 j, n, .inr (.inr (.inr (.inr f)))))) (hj : (kty E.2.1)[j]? = some (E.2.1 j, .object nm)) (ha : L t = a) (hu : C u = some (.inr (ci, vs))) (hv : L u = v) (hc : vwCl[ci]? = some r) (hca : r.1 = nm ∨ (r.1, nm) ∈ kCas) (h9 : n9 < n) (hn : n < 2 ^ 31) (hdg : decode cc pc = .ok (.aastore, 1)) (k9 : kW Γ E A (kup C t (some (.inl (E.2.1 j, n, .inr (.inr (.inr (.inr (va_up f n9 (some v))))))))) L cells slots (pc + 1) lo rest) : kW Γ E A C L cells slots pc lo (.ref v :: .int (nI n9) :: .ref a :: rest) :=
  k_aast X hC hj ha hu hv hc hca (vp_in_nI h9 hn) hdg (by rw [nI_clamp (by omega)]; exact k9)
theorem kcpyup {f : Nat → Option Nat} {n : Nat} {b : Option Nat} (hfn : ∀ j, n ≤ j → f j = none) : va_up (va_cpy f (fun _ => none) 0 0 n) n b = va_up f n b := by
  funext j
  by_cases h : j = n
  · simp [va_up, h]
  · simp only [va_up, if_neg h]
    by_cases h2 : j < n
    · rw [pk_cpy_in (Nat.zero_le _) (by omega)]; simp
    · rw [pk_cpy_out (Or.inr (by omega)), hfn j (by omega)]
theorem kfin {C : kC} {u ta th : kT} {a1 h1 a2 h2 a : Option va_E} (hu : C u = none) (hau : ta ≠ u) (hhu : th ≠ u) (hha : th ≠ ta) : kup (kup (kup (kup (kup (kup C u a1) th h1) u a2) th h2) u none) ta a = kup (kup C ta a) th h2 := by
  funext x
  by_cases e1 : x = ta
  · subst e1
    rw [kup_s, kup_n hha.symm, kup_s]
  · by_cases e2 : x = th
    · subst e2
      rw [kup_n e1, kup_n hhu, kup_s, kup_s]
    · by_cases e3 : x = u
      · subst e3
        rw [kup_n e1, kup_s, kup_n e2, kup_n e1, hu]
      · rw [kup_n e1, kup_n e3, kup_n e2, kup_n e3, kup_n e2, kup_n e3, kup_n e2, kup_n e1]
theorem kfinL {C : kC} {L : kL} {u ta : kT} {q : Nat} {a : Option va_E} (hau : ta ≠ u) : ∀ x e, kup (kup C u none) ta a x = some e → kup L ta q x = kup (kup L u q) ta (kup L u q u) x := by
  intro x e hx
  by_cases e1 : x = ta
  · rw [e1, kup_s, kup_s, kup_s]
  · rw [kup_n e1] at hx
    by_cases e2 : x = u
    · rw [e2, kup_s] at hx; cases hx
    · rw [kup_n e1, kup_n e1, kup_n e2]
theorem kthta {C : kC} {ta th : kT} {h1 a h2 : Option va_E} (hha : th ≠ ta) : kup (kup (kup C th h1) ta a) th h2 = kup (kup C ta a) th h2 := by
  funext x
  by_cases e2 : x = th
  · rw [e2, kup_s, kup_s]
  · rw [kup_n e2, kup_n e2]
    by_cases e1 : x = ta
    · rw [e1, kup_s, kup_s]
    · rw [kup_n e1, kup_n e1, kup_n e2]

set_option maxHeartbeats 4000000 in
set_option maxRecDepth 100000 in
theorem c_add3R {l : Launch} (htr : l.stackTraces = false) {E : kE} {A : Nat → Prop} {C : kC} {L : kL} {th ta u tb : kT} {m : Int32} {n : Nat} {f : Nat → Option Nat} {vsb : List Value} (hha : th ≠ ta) (hhu : th ≠ u) (hau : ta ≠ u) (hbu : tb ≠ u) (hbh : tb ≠ th) (hba : tb ≠ ta) (hu : C u = none) {ci : Nat} {r : vw_C} (hc : vwCl[ci]? = some r) (hcas : (r.1, "java/lang/Object") ∈ kCas) (hb : C tb = some (.inr (ci, vsb))) (hfn : ∀ j, n ≤ j → f j = none) (hn : n ≤ 1000) {cap : Nat} (h : C th = some (.inr (0, [.int m, .ref (L ta), .int (nI n)]))) (g : C ta = some (.inl (E.2.1 3, cap, .inr (.inr (.inr (.inr f)))))) (hcap : n < cap) (h10 : 10 ≤ cap) (hcm : cap < 100000) : kM l yJx4a65c_add_72be8 cJx4a65c_add_72be8 4 none 5 127 1 (10 + n + n / 2) E A C L [.ref (L th), .ref (L tb), .ref (L ta), .int (nI n)] (fun v C' L' => ∃ q cap' : Nat, v = none ∧ L' = kup L ta q ∧ n + 1 ≤ cap' ∧ 10 ≤ cap' ∧ cap' < 100000 ∧ C' = kup (kup C ta (some (.inl (E.2.1 3, cap', .inr (.inr (.inr (.inr (va_up f n (some (L tb))))))))) ) th (some (.inr (0, [.int m, .ref q, .int (nI (n + 1))])))) := by
  refine kM.of htr (by decide) (Nat.le_of_ble_eq_true rfl) (fun Γ hl hR hN hnm X hE => ?_)
  refine k_lo (lo' := [(0, .ref (L th)), (1, .ref (L tb)), (2, .ref (L ta)), (3, .int (nI n))]) ⟨rfl, rfl, rfl, rfl, trivial⟩ ?_
  refine k_iload_n X dJx4a65c_add_72be8_0 rfl rfl ?_
  refine k_aload_n X dJx4a65c_add_72be8_1 rfl rfl ?_
  refine k_alen X g (ty := .object "java/lang/Object") rfl rfl dJx4a65c_add_72be8_2 ?_
  refine k_icmp_ne (tgt := 11) X dJx4a65c_add_72be8_3 (by decide) (fun c3 => ?_) (fun c3 => absurd c3 (fun z => absurd ((nI_eq (by omega) (by omega)).mp z) (by omega)))
  refine k_aload_n X dJx4a65c_add_72be8_11 rfl rfl ?_
  refine k_iload_n X dJx4a65c_add_72be8_12 rfl rfl ?_
  refine k_aload_n X dJx4a65c_add_72be8_13 rfl rfl ?_
  refine k_aastN X g (nm := "java/lang/Object") rfl rfl hb rfl hc (Or.inr hcas) (n9 :=  n) (by omega) (by omega) dJx4a65c_add_72be8_14 ?_
  refine k_aload_n X dJx4a65c_add_72be8_15 rfl rfl ?_
  refine k_iload_n X dJx4a65c_add_72be8_16 rfl rfl ?_
  refine k_iconst (v := (nI 1)) X dJx4a65c_add_72be8_17 (by decide) ?_
  refine k_iaddN X dJx4a65c_add_72be8_18 ?_
  refine k_put1 X ((kup_n hha).trans h) (fs9 := [.int m, .ref (L ta), .int (nI (n + 1))]) (q := (RJx4a65c, TJx4a65c, 3)) rfl inlJx4a65c tyJx4a65c tyJx4a65c_ok nmJx4a65c 2 (by decide) kb_67 (Or.inl rfl) (Or.inl rfl) rfl rfl rfl (Nat.le_of_ble_eq_true rfl) rfl dJx4a65c_add_72be8_19 ?_
  exact k_vret X hE dJx4a65c_add_72be8_22 (by omega) (by omega) ⟨L ta, cap, rfl, kup_id.symm, by omega, by omega, hcm, rfl⟩

set_option maxHeartbeats 4000000 in
set_option maxRecDepth 100000 in
theorem c_add3F {l : Launch} (htr : l.stackTraces = false) {E : kE} {A : Nat → Prop} {C : kC} {L : kL} {th ta u tb : kT} {m : Int32} {n : Nat} {f : Nat → Option Nat} {vsb : List Value} (hha : th ≠ ta) (hhu : th ≠ u) (hau : ta ≠ u) (hbu : tb ≠ u) (hbh : tb ≠ th) (hba : tb ≠ ta) (hu : C u = none) {ci : Nat} {r : vw_C} (hc : vwCl[ci]? = some r) (hcas : (r.1, "java/lang/Object") ∈ kCas) (hb : C tb = some (.inr (ci, vsb))) (hfn : ∀ j, n ≤ j → f j = none) (hn : n ≤ 1000) (h : C th = some (.inr (0, [.int m, .ref (L ta), .int (nI n)]))) (g : C ta = some (.inl (E.2.1 3, n, .inr (.inr (.inr (.inr f)))))) (h2 : 10 ≤ n) (hel : ∀ i, i < n → ∀ y, f i = some y → ∃ (z : kT) (vs : List Value), z ≠ u ∧ L z = y ∧ C z = some (.inr (ci, vs))) : kM l yJx4a65c_add_72be8 cJx4a65c_add_72be8 4 none 5 127 1 (10 + n + n / 2) E A C L [.ref (L th), .ref (L tb), .ref (L ta), .int (nI n)] (fun v C' L' => ∃ q cap' : Nat, v = none ∧ L' = kup L ta q ∧ n + 1 ≤ cap' ∧ 10 ≤ cap' ∧ cap' < 100000 ∧ C' = kup (kup C ta (some (.inl (E.2.1 3, cap', .inr (.inr (.inr (.inr (va_up f n (some (L tb))))))))) ) th (some (.inr (0, [.int m, .ref q, .int (nI (n + 1))])))) := by
  refine kM.of htr (by decide) (Nat.le_of_ble_eq_true rfl) (fun Γ hl hR hN hnm X hE => ?_)
  refine k_lo (lo' := [(0, .ref (L th)), (1, .ref (L tb)), (2, .ref (L ta)), (3, .int (nI n))]) ⟨rfl, rfl, rfl, rfl, trivial⟩ ?_
  refine k_iload_n X dJx4a65c_add_72be8_0 rfl rfl ?_
  refine k_aload_n X dJx4a65c_add_72be8_1 rfl rfl ?_
  refine k_alen X g (ty := .object "java/lang/Object") rfl rfl dJx4a65c_add_72be8_2 ?_
  refine k_icmp_ne (tgt := 11) X dJx4a65c_add_72be8_3 (by decide) (fun c3 => absurd c3 (fun z => z rfl)) (fun c3 => ?_)
  refine k_aload_n X dJx4a65c_add_72be8_6 rfl rfl ?_
  refine k_callV (rest := []) X kv_Jx4a65c_grow_d5877 kb_116 (c_grow0F X.tr (u := u) h g hha hhu hau (by omega) (by omega) hc hcas hel) h rfl rfl rfl rfl rfl (Nat.le_of_ble_eq_true rfl) ⟨by rw [hR]; exact Nat.le_of_ble_eq_true rfl, by rw [hR]; exact Nat.le_of_ble_eq_true rfl⟩ ⟨by rw [hR]; dsimp only; omega, by rw [hR]; dsimp only; omega⟩ dJx4a65c_add_72be8_7 (fun v7 C9 L9 h9 => ?_)
  obtain ⟨q9, rfl, rfl, rfl⟩ := h9
  refine k_astore_n X dJx4a65c_add_72be8_10 rfl (by rw [hN]; decide) ?_
  refine k_aload_n X dJx4a65c_add_72be8_11 rfl rfl ?_
  refine k_iload_n X dJx4a65c_add_72be8_12 rfl rfl ?_
  refine k_aload_n X dJx4a65c_add_72be8_13 rfl rfl ?_
  refine k_aastN X ((kup_n hhu.symm).trans kup_s) (nm := "java/lang/Object") rfl kup_s ((kup_n hbh).trans ((kup_n hbu).trans hb)) ((kup_n hbu).trans rfl) hc (Or.inr hcas) (n9 := n) (by omega) (by omega) dJx4a65c_add_72be8_14 ?_
  refine k_aload_n X dJx4a65c_add_72be8_15 rfl rfl ?_
  refine k_iload_n X dJx4a65c_add_72be8_16 rfl rfl ?_
  refine k_iconst (v := (nI 1)) X dJx4a65c_add_72be8_17 (by decide) ?_
  refine k_iaddN X dJx4a65c_add_72be8_18 ?_
  refine k_put1 X ((kup_n hhu).trans kup_s) (fs9 := [.int m, .ref q9, .int (nI (n + 1))]) (q := (RJx4a65c, TJx4a65c, 3)) rfl inlJx4a65c tyJx4a65c tyJx4a65c_ok nmJx4a65c 2 (by decide) kb_67 (Or.inl rfl) (Or.inl rfl) ((kup_n hhu).trans rfl) rfl rfl (Nat.le_of_ble_eq_true rfl) rfl dJx4a65c_add_72be8_19 ?_
  refine k_move (u := u) (t := ta) ((kup_n hhu.symm).trans kup_s) hau.symm ?_
  refine k_L (kfinL hau) ?_
  refine k_C (kfin hu hau hhu hha).symm ?_
  exact k_vret X hE dJx4a65c_add_72be8_22 (by omega) (by omega) ⟨q9, n + n / 2, rfl, rfl, by omega, by omega, by omega, by rw [kcpyup hfn]⟩

set_option maxHeartbeats 4000000 in
set_option maxRecDepth 100000 in
theorem c_add3E {l : Launch} (htr : l.stackTraces = false) {E : kE} {A : Nat → Prop} {C : kC} {L : kL} {th ta u tb : kT} {m : Int32} {vsb : List Value} (hha : th ≠ ta) (hhu : th ≠ u) (hau : ta ≠ u) (hbu : tb ≠ u) (hbh : tb ≠ th) (hba : tb ≠ ta) (hu : C u = none) {ci : Nat} {r : vw_C} (hc : vwCl[ci]? = some r) (hcas : (r.1, "java/lang/Object") ∈ kCas) (hb : C tb = some (.inr (ci, vsb))) (h : C th = some (.inr (0, [.int m, .ref E.2.2.1, .int (nI 0)]))) : kM l yJx4a65c_add_72be8 cJx4a65c_add_72be8 4 none 5 127 1 (10 + 0 + 0 / 2) E A C L [.ref (L th), .ref (L tb), .ref E.2.2.1, .int (nI 0)] (fun v C' L' => ∃ q cap' : Nat, v = none ∧ L' = kup L ta q ∧ 0 + 1 ≤ cap' ∧ 10 ≤ cap' ∧ cap' < 100000 ∧ C' = kup (kup C ta (some (.inl (E.2.1 3, cap', .inr (.inr (.inr (.inr (va_up (fun _ => none) 0 (some (L tb))))))))) ) th (some (.inr (0, [.int m, .ref q, .int (nI (0 + 1))])))) := by
  refine kM.of htr (by decide) (Nat.le_of_ble_eq_true rfl) (fun Γ hl hR hN hnm X hE => ?_)
  refine k_lo (lo' := [(0, .ref (L th)), (1, .ref (L tb)), (2, .ref E.2.2.1), (3, .int (nI 0))]) ⟨rfl, rfl, rfl, rfl, trivial⟩ ?_
  refine k_iload_n X dJx4a65c_add_72be8_0 rfl rfl ?_
  refine k_aload_n X dJx4a65c_add_72be8_1 rfl rfl ?_
  refine k_lenE X dJx4a65c_add_72be8_2 ?_
  refine k_icmp_ne (tgt := 11) X dJx4a65c_add_72be8_3 (by decide) (fun c3 => absurd c3 (fun z => z rfl)) (fun c3 => ?_)
  refine k_aload_n X dJx4a65c_add_72be8_6 rfl rfl ?_
  refine k_callV (rest := []) X kv_Jx4a65c_grow_d5877 kb_116 (c_grow0E X.tr (u := u) h hhu) h rfl rfl rfl rfl rfl (Nat.le_of_ble_eq_true rfl) ⟨by rw [hR]; exact Nat.le_of_ble_eq_true rfl, by rw [hR]; exact Nat.le_of_ble_eq_true rfl⟩ ⟨by rw [hR]; dsimp only; omega, by rw [hR]; dsimp only; omega⟩ dJx4a65c_add_72be8_7 (fun v7 C9 L9 h9 => ?_)
  obtain ⟨q9, rfl, rfl, rfl⟩ := h9
  refine k_astore_n X dJx4a65c_add_72be8_10 rfl (by rw [hN]; decide) ?_
  refine k_aload_n X dJx4a65c_add_72be8_11 rfl rfl ?_
  refine k_iload_n X dJx4a65c_add_72be8_12 rfl rfl ?_
  refine k_aload_n X dJx4a65c_add_72be8_13 rfl rfl ?_
  refine k_aastN X ((kup_n hhu.symm).trans kup_s) (nm := "java/lang/Object") rfl kup_s ((kup_n hbh).trans ((kup_n hbu).trans hb)) ((kup_n hbu).trans rfl) hc (Or.inr hcas) (n9 := 0) (by omega) (by omega) dJx4a65c_add_72be8_14 ?_
  refine k_aload_n X dJx4a65c_add_72be8_15 rfl rfl ?_
  refine k_iload_n X dJx4a65c_add_72be8_16 rfl rfl ?_
  refine k_iconst (v := (nI 1)) X dJx4a65c_add_72be8_17 (by decide) ?_
  refine k_iaddN X dJx4a65c_add_72be8_18 ?_
  refine k_put1 X ((kup_n hhu).trans kup_s) (fs9 := [.int m, .ref q9, .int (nI (0 + 1))]) (q := (RJx4a65c, TJx4a65c, 3)) rfl inlJx4a65c tyJx4a65c tyJx4a65c_ok nmJx4a65c 2 (by decide) kb_67 (Or.inl rfl) (Or.inl rfl) ((kup_n hhu).trans rfl) rfl rfl (Nat.le_of_ble_eq_true rfl) rfl dJx4a65c_add_72be8_19 ?_
  refine k_move (u := u) (t := ta) ((kup_n hhu.symm).trans kup_s) hau.symm ?_
  refine k_L (kfinL hau) ?_
  refine k_C (kfin hu hau hhu hha).symm ?_
  exact k_vret X hE dJx4a65c_add_72be8_22 (by omega) (by omega) ⟨q9, 10, rfl, rfl, by omega, by omega, by omega, rfl⟩

theorem c_add3 {l : Launch} (htr : l.stackTraces = false) {E : kE} {A : Nat → Prop} {C : kC} {L : kL} {th ta u tb : kT} {m : Int32} {n : Nat} {f : Nat → Option Nat} {vsb : List Value} (hha : th ≠ ta) (hhu : th ≠ u) (hau : ta ≠ u) (hbu : tb ≠ u) (hbh : tb ≠ th) (hba : tb ≠ ta) (hu : C u = none) {ci : Nat} {r : vw_C} (hc : vwCl[ci]? = some r) (hcas : (r.1, "java/lang/Object") ∈ kCas) (hb : C tb = some (.inr (ci, vsb))) (hfn : ∀ j, n ≤ j → f j = none) (hn : n ≤ 1000) {cap arr : Nat} (h : C th = some (.inr (0, [.int m, .ref arr, .int (nI n)]))) (hcap : ((cap = 0 ∧ n = 0 ∧ arr = E.2.2.1 ∧ f = fun _ => none) ∨ (arr = L ta ∧ n ≤ cap ∧ 10 ≤ cap ∧ cap < 100000 ∧ C ta = some (.inl (E.2.1 3, cap, .inr (.inr (.inr (.inr f)))))))) (hel : ∀ i, i < n → ∀ y, f i = some y → ∃ (z : kT) (vs : List Value), z ≠ u ∧ L z = y ∧ C z = some (.inr (ci, vs))) : kM l yJx4a65c_add_72be8 cJx4a65c_add_72be8 4 none 5 127 1 (10 + n + n / 2) E A C L [.ref (L th), .ref (L tb), .ref arr, .int (nI n)] (fun v C' L' => ∃ q cap' : Nat, v = none ∧ L' = kup L ta q ∧ n + 1 ≤ cap' ∧ 10 ≤ cap' ∧ cap' < 100000 ∧ C' = kup (kup C ta (some (.inl (E.2.1 3, cap', .inr (.inr (.inr (.inr (va_up f n (some (L tb))))))))) ) th (some (.inr (0, [.int m, .ref q, .int (nI (n + 1))])))) := by
  rcases hcap with ⟨rfl, rfl, rfl, rfl⟩ | ⟨rfl, h1, h2, h3, h4⟩
  · exact c_add3E htr hha hhu hau hbu hbh hba hu hc hcas hb h
  · rcases Nat.lt_or_ge n cap with h5 | h5
    · exact c_add3R htr hha hhu hau hbu hbh hba hu hc hcas hb hfn hn h h4 h5 h2 h3
    · have e : cap = n := by omega
      subst e
      exact c_add3F htr hha hhu hau hbu hbh hba hu hc hcas hb hfn hn h h4 h2 hel

set_option maxHeartbeats 4000000 in
set_option maxRecDepth 100000 in
theorem c_AL_add {l : Launch} (htr : l.stackTraces = false) {E : kE} {A : Nat → Prop} {C : kC} {L : kL} {th ta u tb : kT} {n : Nat} {f : Nat → Option Nat} {vsb : List Value} (hha : th ≠ ta) (hhu : th ≠ u) (hau : ta ≠ u) (hbu : tb ≠ u) (hbh : tb ≠ th) (hba : tb ≠ ta) (hu : C u = none) {ci : Nat} {r : vw_C} (hc : vwCl[ci]? = some r) (hcas : (r.1, "java/lang/Object") ∈ kCas) (hb : C tb = some (.inr (ci, vsb))) (hfn : ∀ j, n ≤ j → f j = none) (hn : n ≤ 1000) {cap arr : Nat} (h : C th = some (.inr (0, [.int (nI n), .ref arr, .int (nI n)]))) (hcap : ((cap = 0 ∧ n = 0 ∧ arr = E.2.2.1 ∧ f = fun _ => none) ∨ (arr = L ta ∧ n ≤ cap ∧ 10 ≤ cap ∧ cap < 100000 ∧ C ta = some (.inl (E.2.1 3, cap, .inr (.inr (.inr (.inr f)))))))) (hel : ∀ i, i < n → ∀ y, f i = some y → ∃ (z : kT) (vs : List Value), z ≠ u ∧ z ≠ th ∧ L z = y ∧ C z = some (.inr (ci, vs))) : kM l yJx4a65c_add_9ea2d cJx4a65c_add_9ea2d 2 (some .boolean) 6 150 1 (10 + n + n / 2) E A C L [.ref (L th), .ref (L tb)] (fun v C' L' => ∃ q cap' : Nat, v = some (.int (nI 1)) ∧ L' = kup L ta q ∧ n + 1 ≤ cap' ∧ 10 ≤ cap' ∧ cap' < 100000 ∧ C' = kup (kup C ta (some (.inl (E.2.1 3, cap', .inr (.inr (.inr (.inr (va_up f n (some (L tb))))))))) ) th (some (.inr (0, [.int (nI (n + 1)), .ref q, .int (nI (n + 1))])))) := by
  refine kM.of htr (by decide) (Nat.le_of_ble_eq_true rfl) (fun Γ hl hR hN hnm X hE => ?_)
  refine k_lo (lo' := [(0, .ref (L th)), (1, .ref (L tb))]) ⟨rfl, rfl, trivial⟩ ?_
  refine k_aload_n X dJx4a65c_add_9ea2d_0 rfl rfl ?_
  refine k_dup X dJx4a65c_add_9ea2d_1 rfl ?_
  refine k_get0 X h (q := (RJx4a65c, TJx4a65c, 3)) rfl inlJx4a65c 0 (by decide) kb_110 (Or.inr kb_111) rfl rfl dJx4a65c_add_9ea2d_2 ?_
  refine k_iconst (v := (nI 1)) X dJx4a65c_add_9ea2d_5 (by decide) ?_
  refine k_iaddN X dJx4a65c_add_9ea2d_6 ?_
  refine k_put1 X h (fs9 := [.int (nI (n + 1)), .ref arr, .int (nI n)]) (q := (RJx4a65c, TJx4a65c, 3)) rfl inlJx4a65c tyJx4a65c tyJx4a65c_ok nmJx4a65c 0 (by decide) kb_110 (Or.inr kb_111) (Or.inl rfl) rfl rfl rfl (Nat.le_of_ble_eq_true rfl) rfl dJx4a65c_add_9ea2d_7 ?_
  refine k_aload_n X dJx4a65c_add_9ea2d_10 rfl rfl ?_
  refine k_aload_n X dJx4a65c_add_9ea2d_11 rfl rfl ?_
  refine k_aload_n X dJx4a65c_add_9ea2d_12 rfl rfl ?_
  refine k_get0 X kup_s (q := (RJx4a65c, TJx4a65c, 3)) rfl inlJx4a65c 1 (by decide) kb_23 (Or.inl rfl) rfl rfl dJx4a65c_add_9ea2d_13 ?_
  refine k_aload_n X dJx4a65c_add_9ea2d_16 rfl rfl ?_
  refine k_get0 X kup_s (q := (RJx4a65c, TJx4a65c, 3)) rfl inlJx4a65c 2 (by decide) kb_67 (Or.inl rfl) rfl rfl dJx4a65c_add_9ea2d_17 ?_
  refine k_callV (rest := []) X kv_Jx4a65c_add_72be8 kb_112 (c_add3 X.tr (u := u) (m := nI (n + 1)) hha hhu hau hbu hbh hba ((kup_n hhu.symm).trans hu) hc hcas ((kup_n hbh).trans hb) hfn hn (cap := cap) (arr := arr) kup_s (by rcases hcap with ⟨a1, a2, a3, a4⟩ | ⟨a1, a2, a3, a4, a5⟩; exact Or.inl ⟨a1, a2, a3, a4⟩; exact Or.inr ⟨a1, a2, a3, a4, (kup_n hha.symm).trans a5⟩) (fun i hi y hy => by obtain ⟨z, vs, z1, z2, z3, z4⟩ := hel i hi y hy; exact ⟨z, vs, z1, z3, (kup_n z2).trans z4⟩)) kup_s rfl rfl rfl rfl rfl (Nat.le_of_ble_eq_true rfl) ⟨by rw [hR]; exact Nat.le_of_ble_eq_true rfl, by rw [hR]; exact Nat.le_of_ble_eq_true rfl⟩ ⟨by rw [hR]; dsimp only; omega, by rw [hR]; dsimp only; omega⟩ dJx4a65c_add_9ea2d_20 (fun v20 C9 L9 h9 => ?_)
  obtain ⟨q9, cap9, rfl, rfl, e1, e2, e3, rfl⟩ := h9
  refine k_iconst (v := (nI 1)) X dJx4a65c_add_9ea2d_23 (by decide) ?_
  exact k_zret X hE kz1 dJx4a65c_add_9ea2d_24 (by omega) (by omega) ⟨q9, cap9, rfl, rfl, e1, e2, e3, by rw [kthta hha]⟩

set_option maxHeartbeats 4000000 in
set_option maxRecDepth 100000 in
theorem c_AC_init {l : Launch} (htr : l.stackTraces = false) {E : kE} {A : Nat → Prop} {C : kC} {L : kL} {th : kT} {a b : Int32} {v1 : Value} (h : C th = some (.inr (0, [.int a, v1, .int b]))) : kM l yJxa1e45_init_da8c8 cJxa1e45_init_da8c8 1 none 1 12 0 0 E A C L [.ref (L th)] (fun v C' L' => v = none ∧ L = L' ∧ C = C') := by
  refine kM.of htr (by decide) (Nat.le_of_ble_eq_true rfl) (fun Γ hl hR hN hnm X hE => ?_)
  refine k_lo (lo' := [(0, .ref (L th))]) ⟨rfl, trivial⟩ ?_
  refine k_aload_n X dJxa1e45_init_da8c8_0 rfl rfl ?_
  refine k_objInit X kb_33 kb_8 kb_9 (by rw [hR]; exact Nat.le_of_ble_eq_true rfl) (by rw [hR]; exact Nat.le_of_ble_eq_true rfl) dJxa1e45_init_da8c8_1 ?_
  exact k_vret X hE dJxa1e45_init_da8c8_4 (by omega) (by omega) ⟨rfl, rfl, rfl⟩

set_option maxHeartbeats 4000000 in
set_option maxRecDepth 100000 in
theorem c_ALi_init {l : Launch} (htr : l.stackTraces = false) {E : kE} {A : Nat → Prop} {C : kC} {L : kL} {th : kT} {a b : Int32} {v1 : Value} (h : C th = some (.inr (0, [.int a, v1, .int b]))) : kM l yJxc12de_init_da8c8 cJxc12de_init_da8c8 1 none 2 32 0 0 E A C L [.ref (L th)] (fun v C' L' => v = none ∧ L = L' ∧ C' = kup C th (some (.inr (0, [.int (nI 0), v1, .int b])))) := by
  refine kM.of htr (by decide) (Nat.le_of_ble_eq_true rfl) (fun Γ hl hR hN hnm X hE => ?_)
  refine k_lo (lo' := [(0, .ref (L th))]) ⟨rfl, trivial⟩ ?_
  refine k_aload_n X dJxc12de_init_da8c8_0 rfl rfl ?_
  refine k_callI (rest := []) X ki_Jxa1e45_init_da8c8 kb_29 (c_AC_init X.tr h) rfl rfl (Nat.le_of_ble_eq_true rfl) ⟨by rw [hR]; exact Nat.le_of_ble_eq_true rfl, by rw [hR]; exact Nat.le_of_ble_eq_true rfl⟩ ⟨by rw [hR]; exact Nat.le_of_ble_eq_true rfl, by rw [hR]; exact Nat.le_of_ble_eq_true rfl⟩ dJxc12de_init_da8c8_1 (fun v1 C9 L9 h9 => ?_)
  obtain ⟨rfl, rfl, rfl⟩ := h9
  refine k_aload_n X dJxc12de_init_da8c8_4 rfl rfl ?_
  refine k_iconst (v := (nI 0)) X dJxc12de_init_da8c8_5 (by decide) ?_
  refine k_put1 X h (fs9 := [.int (nI 0), v1, .int b]) (q := (RJx4a65c, TJx4a65c, 3)) rfl inlJx4a65c tyJx4a65c tyJx4a65c_ok nmJx4a65c 0 (by decide) kb_28 (Or.inl rfl) (Or.inl rfl) rfl rfl rfl (Nat.le_of_ble_eq_true rfl) rfl dJxc12de_init_da8c8_6 ?_
  exact k_vret X hE dJxc12de_init_da8c8_9 (by omega) (by omega) ⟨rfl, rfl, rfl⟩

set_option maxHeartbeats 4000000 in
set_option maxRecDepth 100000 in
theorem c_AL_init {l : Launch} (htr : l.stackTraces = false) {E : kE} {A : Nat → Prop} {C : kC} {L : kL} {th : kT} {a b : Int32} {v1 : Value} (h : C th = some (.inr (0, [.int a, v1, .int b]))) : kM l yJx4a65c_init_da8c8 cJx4a65c_init_da8c8 1 none 3 52 0 0 E A C L [.ref (L th)] (fun v C' L' => v = none ∧ L = L' ∧ C' = kup C th (some (.inr (0, [.int (nI 0), .ref E.2.2.1, .int b])))) := by
  refine kM.of htr (by decide) (Nat.le_of_ble_eq_true rfl) (fun Γ hl hR hN hnm X hE => ?_)
  refine k_lo (lo' := [(0, .ref (L th))]) ⟨rfl, trivial⟩ ?_
  refine k_aload_n X dJx4a65c_init_da8c8_0 rfl rfl ?_
  refine k_callI (rest := []) X ki_Jxc12de_init_da8c8 kb_24 (c_ALi_init X.tr h) rfl rfl (Nat.le_of_ble_eq_true rfl) ⟨by rw [hR]; exact Nat.le_of_ble_eq_true rfl, by rw [hR]; exact Nat.le_of_ble_eq_true rfl⟩ ⟨by rw [hR]; exact Nat.le_of_ble_eq_true rfl, by rw [hR]; exact Nat.le_of_ble_eq_true rfl⟩ dJx4a65c_init_da8c8_1 (fun v1 C9 L9 h9 => ?_)
  obtain ⟨rfl, rfl, rfl⟩ := h9
  refine k_aload_n X dJx4a65c_init_da8c8_4 rfl rfl ?_
  refine k_getsE X kb_22 dJx4a65c_init_da8c8_5 ?_
  refine k_putS X (fs9 := [.int (nI 0), .ref E.2.2.1, .int b]) (q := (RJx4a65c, TJx4a65c, 3)) rfl inlJx4a65c tyJx4a65c tyJx4a65c_ok nmJx4a65c 1 (by decide) kb_23 (Or.inl rfl) (Or.inl rfl) rfl rfl rfl (Nat.le_of_ble_eq_true rfl) rfl dJx4a65c_init_da8c8_8 ?_
  exact k_vret X hE dJx4a65c_init_da8c8_11 (by omega) (by omega) ⟨rfl, rfl, rfl⟩
end
section
/-! THE STATE OF FieldStore: numbers S (family, device or job, place, field), counts N (family, device, place).
S: 1 site, 2 crew, 3 fields of a job; of a device: 4 room, 5 copied, 6 copyCount, 7 unnumbered, 8 fields of a copy, 9 number and 10 fields of a made job, 11 act (job, field, value, version, reason); 12 acts done.
N: 1 jobs; of a device: 2 made, 3 acts, 4 next act, 5 refused, 6 which act was refused, 11 whether a copy's thing is there.
Things by name: 1 store, 2 3 list of jobs, 4 devices, 5 device, 6 copies, 7 copied, 8 9 made, 10 11 acts, 12 13 refused, 14 job, 15 its fields, 16 copy, 17 made, 18 its fields, 19 act; 60 is nobody's. -/
abbrev kI4 : Type := Nat → Nat → Nat → Nat → Int32
abbrev kN3 : Type := Nat → Nat → Nat → Nat
def w4 (S : kI4) (f d k j : Nat) (v : Int32) : kI4 := fun f' d' k' j' => if f' = f ∧ d' = d ∧ k' = k ∧ j' = j then v else S f' d' k' j'
def w3 (N : kN3) (f d k : Nat) (v : Nat) : kN3 := fun f' d' k' => if f' = f ∧ d' = d ∧ k' = k then v else N f' d' k'
theorem w4_s {S : kI4} {f d k j : Nat} {v : Int32} : w4 S f d k j v f d k j = v := if_pos ⟨rfl, rfl, rfl, rfl⟩
theorem w4_n {S : kI4} {f d k j f' d' k' j' : Nat} {v : Int32} (h : ¬ (f' = f ∧ d' = d ∧ k' = k ∧ j' = j)) : w4 S f d k j v f' d' k' j' = S f' d' k' j' := if_neg h
theorem w3_s {N : kN3} {f d k v : Nat} : w3 N f d k v f d k = v := if_pos ⟨rfl, rfl, rfl⟩
theorem w3_n {N : kN3} {f d k v f' d' k' : Nat} (h : ¬ (f' = f ∧ d' = d ∧ k' = k)) : w3 N f d k v f' d' k' = N f' d' k' := if_neg h
def kF (S : kI4) (f d k : Nat) : va_E := .inr (3, [.int (S f d k 0), .int (S f d k 1), .int (S f d k 2), .int (S f d k 3)])
def kAct (S : kI4) (d k : Nat) : va_E := .inr (1, [.int (S 11 d k 0), .int (S 11 d k 1), .int (S 11 d k 2), .int (S 11 d k 3), .int (S 11 d k 4)])
/-- the first n of g -/
def kfst (n : Nat) (g : Nat → Nat) : Nat → Option Nat := fun j => if j < n then some (g j) else none
theorem kfst_in {n j : Nat} {g : Nat → Nat} (h : j < n) : kfst n g j = some (g j) := if_pos h
theorem kfst_out {n : Nat} {g : Nat → Nat} : ∀ j, n ≤ j → kfst n g j = none := fun j h => if_neg (by omega)
theorem kfst_up {n : Nat} {g g' : Nat → Nat} {b : Nat} (h : ∀ j, j < n → g' j = g j) (hb : g' n = b) : va_up (kfst n g) n (some b) = kfst (n + 1) g' := by
  funext j
  by_cases e : j = n
  · subst e
    simp [va_up, kfst, hb]
  · by_cases e2 : j < n
    · simp [va_up, kfst, e, e2, h j e2, Nat.lt_succ_of_lt e2]
    · simp [va_up, kfst, e, e2, show ¬ j < n + 1 by omega]
def kLs (E : kE) (C : kC) (L : kL) (fh fa d n : Nat) (g : Nat → Nat) : Prop := ∃ cap arr : Nat, C (fh, d, 0) = some (.inr (0, [.int (nI n), .ref arr, .int (nI n)])) ∧ ((cap = 0 ∧ n = 0 ∧ arr = E.2.2.1 ∧ kfst n g = fun _ => none) ∨ (arr = L (fa, d, 0) ∧ n ≤ cap ∧ 10 ≤ cap ∧ cap < 100000 ∧ C (fa, d, 0) = some (.inl (E.2.1 3, cap, .inr (.inr (.inr (.inr (kfst n g))))))))
theorem kLs.keep {E : kE} {C C' : kC} {L L' : kL} {fh fa d n : Nat} {g g' : Nat → Nat} (h : kLs E C L fh fa d n g) (h1 : C' (fh, d, 0) = C (fh, d, 0)) (h2 : C' (fa, d, 0) = C (fa, d, 0)) (h3 : L' (fa, d, 0) = L (fa, d, 0)) (hg : ∀ j, j < n → g' j = g j) : kLs E C' L' fh fa d n g' := by
  obtain ⟨cap, arr, a1, a2⟩ := h
  have e : kfst n g' = kfst n g := by
    funext j
    by_cases c : j < n
    · rw [kfst_in c, kfst_in c, hg j c]
    · rw [kfst_out j (by omega), kfst_out j (by omega)]
  exact ⟨cap, arr, by rw [h1]; exact a1, by rw [h2, h3, e]; exact a2⟩
def isC (E : kE) (C : kC) (L : kL) (S : kI4) (N : kN3) : Prop :=
  (C (1, 0, 0) = some (.inr (6, [.ref (L (2, 0, 0)), .ref (L (4, 0, 0)), .int (S 12 0 0 0)])) ∧ C (60, 0, 0) = none) ∧
  kLs E C L 2 3 0 (N 1 0 0) (fun j => L (14, j, 0)) ∧
  C (4, 0, 0) = some (.inl (E.2.1 5, 4, .inr (.inr (.inr (.inr (kfst 4 (fun d => L (5, d, 0)))))))) ∧
  (∀ i, i < N 1 0 0 → C (14, i, 0) = some (.inr (4, [.int (S 1 i 0 0), .int (S 2 i 0 0), .ref (L (15, i, 0))])) ∧ C (15, i, 0) = some (kF S 3 i 0))
def kDev (L : kL) (S : kI4) (N : kN3) (d : Nat) : va_E := .inr (2, [.int (S 4 d 0 0), .ref (L (6, d, 0)), .ref (L (7, d, 0)), .int (S 6 d 0 0), .ref (L (8, d, 0)), .int (S 7 d 0 0), .ref (L (10, d, 0)), .int (nI (N 4 d 0)), .ref (L (12, d, 0))])
def kCps (E : kE) (L : kL) (N : kN3) (d : Nat) : va_E := .inl (E.2.1 4, 40, .inr (.inr (.inr (.inr (fun n => if N 11 d n = 0 then none else some (L (16, d, n)))))))
def isD (E : kE) (C : kC) (L : kL) (S : kI4) (N : kN3) (d : Nat) : Prop :=
  C (5, d, 0) = some (kDev L S N d) ∧
  C (6, d, 0) = some (kCps E L N d) ∧
  C (7, d, 0) = some (.inl (E.2.1 1, 40, .inl (fun n => S 5 d n 0))) ∧
  kLs E C L 8 9 d (N 2 d 0) (fun k => L (17, d, k)) ∧
  kLs E C L 10 11 d (N 3 d 0) (fun k => L (19, d, k)) ∧
  kLs E C L 12 13 d (N 5 d 0) (fun i => L (19, d, N 6 d i)) ∧
  (∀ n, N 11 d n ≠ 0 → C (16, d, n) = some (kF S 8 d n)) ∧
  (∀ k, k < N 2 d 0 → C (17, d, k) = some (.inr (5, [.int (S 9 d k 0), .ref (L (18, d, k))])) ∧ C (18, d, k) = some (kF S 10 d k)) ∧
  (∀ k, k < N 3 d 0 → C (19, d, k) = some (kAct S d k))
def isX (E : kE) (C : kC) (L : kL) (S : kI4) (N : kN3) : Prop := isC E C L S N ∧ ∀ d, d < 4 → isD E C L S N d
/-- what is known of the counts -/
def okX (S : kI4) (N : kN3) : Prop := N 1 0 0 ≤ 40 ∧ ∀ d, d < 4 → N 2 d 0 ≤ 512 ∧ N 3 d 0 ≤ 512 ∧ N 4 d 0 ≤ N 3 d 0 ∧ N 5 d 0 ≤ 512 ∧ (∀ i, i < N 5 d 0 → N 6 d i < N 3 d 0)
/-- all that isn't FieldStore's stays -/
def kFr (C : kC) (L : kL) (C' : kC) (L' : kL) : Prop := ∀ t : kT, 30 ≤ t.1 → C' t = C t ∧ L' t = L t
theorem kFr.rf {C : kC} {L : kL} : kFr C L C L := fun _ _ => ⟨rfl, rfl⟩
theorem kFr.tr {C C1 C2 : kC} {L L1 L2 : kL} (h : kFr C L C1 L1) (h2 : kFr C1 L1 C2 L2) : kFr C L C2 L2 := fun t ht => ⟨(h2 t ht).1.trans (h t ht).1, (h2 t ht).2.trans (h t ht).2⟩
theorem kFr.up {C C1 : kC} {L L1 : kL} (h : kFr C L C1 L1) {f d k : Nat} {e : Option va_E} (hf : f < 30) : kFr C L (kup C1 (f, d, k) e) L1 := fun t ht => ⟨(kup_n (fun z => by rw [z] at ht; exact absurd ht (by show ¬ 30 ≤ f; omega))).trans (h t ht).1, (h t ht).2⟩
theorem kFr.upL {C C1 : kC} {L L1 : kL} (h : kFr C L C1 L1) {f d k : Nat} {q : Nat} (hf : f < 30) : kFr C L C1 (kup L1 (f, d, k) q) := fun t ht => ⟨(h t ht).1, (kup_n (fun z => by rw [z] at ht; exact absurd ht (by show ¬ 30 ≤ f; omega))).trans (h t ht).2⟩
theorem isD.keep {E : kE} {C C' : kC} {L L' : kL} {S S' : kI4} {N N' : kN3} {d : Nat} (h : isD E C L S N d) (hC : ∀ f k, 5 ≤ f → f ≤ 19 → f ≠ 14 → f ≠ 15 → C' (f, d, k) = C (f, d, k)) (hL : ∀ f k, 5 ≤ f → f ≤ 19 → f ≠ 14 → f ≠ 15 → L' (f, d, k) = L (f, d, k)) (hS : ∀ f k j, 4 ≤ f → f ≤ 11 → S' f d k j = S f d k j) (hN : ∀ f k, 2 ≤ f → f ≤ 11 → N' f d k = N f d k) : isD E C' L' S' N' d := by
  obtain ⟨h1, h2, h3, h4, h5, h6, h7, h8, h9⟩ := h
  have c : ∀ f k, 5 ≤ f ∧ f ≤ 19 ∧ f ≠ 14 ∧ f ≠ 15 → C' (f, d, k) = C (f, d, k) ∧ L' (f, d, k) = L (f, d, k) := fun f k z => ⟨hC f k z.1 z.2.1 z.2.2.1 z.2.2.2, hL f k z.1 z.2.1 z.2.2.1 z.2.2.2⟩
  have q : ∀ f k j, 4 ≤ f ∧ f ≤ 11 → S' f d k j = S f d k j := fun f k j z => hS f k j z.1 z.2
  have r : ∀ f k, 2 ≤ f ∧ f ≤ 11 → N' f d k = N f d k := fun f k z => hN f k z.1 z.2
  refine ⟨?_, ?_, ?_, ?_, ?_, ?_, fun n hn => ?_, fun k hk => ?_, fun k hk => ?_⟩
  · rw [(c 5 0 (by decide)).1, h1]
    simp only [kDev, q 4 0 0 (by decide), q 6 0 0 (by decide), q 7 0 0 (by decide), r 4 0 (by decide), (c 6 0 (by decide)).2, (c 7 0 (by decide)).2, (c 8 0 (by decide)).2, (c 10 0 (by decide)).2, (c 12 0 (by decide)).2]
  · rw [(c 6 0 (by decide)).1, h2]
    have e : ∀ n, N' 11 d n = N 11 d n := fun n => r 11 n (by decide)
    have e2 : ∀ n, L' (16, d, n) = L (16, d, n) := fun n => (c 16 n (by decide)).2
    simp only [kCps, e, e2]
  · rw [(c 7 0 (by decide)).1, h3]
    have e : ∀ n, S' 5 d n 0 = S 5 d n 0 := fun n => q 5 n 0 (by decide)
    simp only [e]
  · rw [r 2 0 (by decide)]
    exact h4.keep (c 8 0 (by decide)).1 (c 9 0 (by decide)).1 (c 9 0 (by decide)).2 (fun j _ => (c 17 j (by decide)).2)
  · rw [r 3 0 (by decide)]
    exact h5.keep (c 10 0 (by decide)).1 (c 11 0 (by decide)).1 (c 11 0 (by decide)).2 (fun j _ => (c 19 j (by decide)).2)
  · rw [r 5 0 (by decide)]
    exact h6.keep (c 12 0 (by decide)).1 (c 13 0 (by decide)).1 (c 13 0 (by decide)).2 (fun j _ => by rw [r 6 j (by decide)]; exact (c 19 _ (by decide)).2)
  · rw [r 11 n (by decide)] at hn
    rw [(c 16 n (by decide)).1, h7 n hn]
    simp only [kF, q 8 n 0 (by decide), q 8 n 1 (by decide), q 8 n 2 (by decide), q 8 n 3 (by decide)]
  · rw [r 2 0 (by decide)] at hk
    rw [(c 17 k (by decide)).1, (c 18 k (by decide)).1, (h8 k hk).1, (h8 k hk).2, (c 18 k (by decide)).2, q 9 k 0 (by decide)]
    simp only [kF, q 10 k 0 (by decide), q 10 k 1 (by decide), q 10 k 2 (by decide), q 10 k 3 (by decide), and_self]
  · rw [r 3 0 (by decide)] at hk
    rw [(c 19 k (by decide)).1, h9 k hk]
    simp only [kAct, q 11 k 0 (by decide), q 11 k 1 (by decide), q 11 k 2 (by decide), q 11 k 3 (by decide), q 11 k 4 (by decide)]
theorem isC.keep {E : kE} {C C' : kC} {L L' : kL} {S S' : kI4} {N N' : kN3} (h : isC E C L S N) (hC : ∀ f i, f ≤ 4 ∨ f = 14 ∨ f = 15 ∨ f = 60 → C' (f, i, 0) = C (f, i, 0)) (hL : ∀ f i, f ≤ 5 ∨ f = 14 ∨ f = 15 → L' (f, i, 0) = L (f, i, 0)) (hS : ∀ f i j, f ≤ 3 ∨ f = 12 → S' f i 0 j = S f i 0 j) (hN : N' 1 0 0 = N 1 0 0) : isC E C' L' S' N' := by
  obtain ⟨⟨h1, h0⟩, h2, h3, h4⟩ := h
  refine ⟨⟨?_, by rw [hC 60 0 (by decide)]; exact h0⟩, ?_, ?_, fun i hi => ?_⟩
  · rw [hC 1 0 (by decide), h1, hL 2 0 (by decide), hL 4 0 (by decide), hS 12 0 0 (by decide)]
  · rw [hN]
    exact h2.keep (hC 2 0 (by decide)) (hC 3 0 (by decide)) (hL 3 0 (by decide)) (fun j _ => hL 14 j (by decide))
  · rw [hC 4 0 (by decide), h3]
    have e : ∀ d, L' (5, d, 0) = L (5, d, 0) := fun d => hL 5 d (by decide)
    simp only [e]
  · rw [hN] at hi
    rw [hC 14 i (by decide), hC 15 i (by decide), (h4 i hi).1, (h4 i hi).2, hL 15 i (by decide), hS 1 i 0 (by decide), hS 2 i 0 (by decide)]
    simp only [kF, hS 3 i 0 (by decide), hS 3 i 1 (by decide), hS 3 i 2 (by decide), hS 3 i 3 (by decide), and_self]
end
section
theorem Met.imp {l : Launch} {y : MethodName} {cc : ByteArray} {n : Nat} {ret : Option FieldType} {fr lw mc ms : Nat} {E : kE} {A : Nat → Prop} {C : kC} {L : kL} {av : List Value} {P P' : Option Value → kC → kL → Prop} (h : kM l y cc n ret fr lw mc ms E A C L av P) (hP : ∀ v C' L', P v C' L' → P' v C' L') : kM l y cc n ret fr lw mc ms E A C L av P' := by
  intro p e ha hc hk s m args below hf happ hpre hK
  obtain ⟨k, o, h1, h2, h3, ⟨⟨v, C', L', a1, a2, a3⟩, a4⟩, a5⟩ := h p e ha hc hk s m args below hf happ hpre hK
  exact ⟨k, o, h1, h2, h3, ⟨⟨v, C', L', a1, hP v C' L' a2, a3⟩, a4⟩, a5⟩

theorem c_Ls_size {l : Launch} (htr : l.stackTraces = false) {E : kE} {A : Nat → Prop} {C : kC} {L : kL} {fh fa d n : Nat} {g : Nat → Nat} (h : kLs E C L fh fa d n g) : kM l yJx4a65c_size_8abf5 cJx4a65c_size_8abf5 1 (some .int) 0 0 0 0 E A C L [.ref (L (fh, d, 0))] (fun v C' L' => v = some (.int (nI n)) ∧ L = L' ∧ C = C') := by
  obtain ⟨cap, arr, h1, h2⟩ := h
  exact c_AL_size htr h1
theorem c_Ls_get {l : Launch} (htr : l.stackTraces = false) {E : kE} {A : Nat → Prop} {C : kC} {L : kL} {fh fa d n : Nat} {g : Nat → Nat} (h : kLs E C L fh fa d n g) (i : Nat) (hi : i < n) (hn : n ≤ 1000) : kM l yJx4a65c_get_915e3 cJx4a65c_get_915e3 2 (some (.object "java/lang/Object")) 2 43 0 0 E A C L [.ref (L (fh, d, 0)), .int (nI i)] (fun v C' L' => v = some (.ref (g i)) ∧ L = L' ∧ C = C') := by
  obtain ⟨cap, arr, h1, h2⟩ := h
  rcases h2 with ⟨a1, a2, a3, a4⟩ | ⟨rfl, a2, a3, a4, a5⟩
  · omega
  · exact c_AL_get htr h1 a5 (by omega) (by omega) (kfst_in hi) hi (by omega)
theorem kLs.hd {E : kE} {C : kC} {L : kL} {fh fa d n : Nat} {g : Nat → Nat} (h : kLs E C L fh fa d n g) : ∃ vs, C (fh, d, 0) = some (.inr (0, vs)) := by
  obtain ⟨cap, arr, h1, h2⟩ := h
  exact ⟨_, h1⟩
theorem c_Ls_add {l : Launch} (htr : l.stackTraces = false) {E : kE} {A : Nat → Prop} {C : kC} {L : kL} {fh fa d n ft dt kt ci : Nat} {g : Nat → Nat} {r : vw_C} {vsb : List Value} (h : kLs E C L fh fa d n g) (hn : n ≤ 1000) (h60 : C (60, 0, 0) = none) (hc : vwCl[ci]? = some r) (hcas : (r.1, "java/lang/Object") ∈ kCas) (hb : C (ft, dt, kt) = some (.inr (ci, vsb))) (hf1 : fh ≠ fa) (hf2 : fh ≠ 60) (hf3 : fa ≠ 60) (ht1 : ft ≠ 60) (ht2 : ft ≠ fh) (ht3 : ft ≠ fa)
    (hel : ∀ i, i < n → ∃ (fz dz kz : Nat) (vs : List Value), fz ≠ 60 ∧ fz ≠ fh ∧ L (fz, dz, kz) = g i ∧ C (fz, dz, kz) = some (.inr (ci, vs))) :
    kM l yJx4a65c_add_9ea2d cJx4a65c_add_9ea2d 2 (some .boolean) 6 150 1 (10 + n + n / 2) E A C L [.ref (L (fh, d, 0)), .ref (L (ft, dt, kt))] (fun v C' L' => v = some (.int (nI 1)) ∧ (∀ t, t ≠ (fh, d, 0) → t ≠ (fa, d, 0) → C' t = C t) ∧ (∀ t, t ≠ (fa, d, 0) → L' t = L t) ∧ ∀ g' : Nat → Nat, (∀ j, j < n → g' j = g j) → g' n = L (ft, dt, kt) → kLs E C' L' fh fa d (n + 1) g') := by
  obtain ⟨cap, arr, h1, h2⟩ := h
  refine Met.imp (c_AL_add htr (u := (60, 0, 0)) (ta := (fa, d, 0)) (f := kfst n g) (cap := cap) (arr := arr) (kne1 hf1) (kne1 hf2) (kne1 hf3) (kne1 ht1) (kne1 ht2) (kne1 ht3) h60 hc hcas hb kfst_out hn h1 h2 (fun i hi y hy => ?_)) ?_
  · rw [kfst_in hi] at hy
    obtain ⟨fz, dz, kz, vs, z1, z2, z3, z4⟩ := hel i hi
    exact ⟨(fz, dz, kz), vs, kne1 z1, kne1 z2, z3.trans (Option.some.inj hy), z4⟩
  · rintro v C' L' ⟨q, cap', rfl, rfl, e1, e2, e3, rfl⟩
    refine ⟨rfl, fun t t1 t2 => by rw [kup_n t1, kup_n t2], fun t t2 => kup_n t2, fun g' hg hb' => ?_⟩
    refine ⟨cap', q, kup_s, Or.inr ⟨by rw [kup_s], e1, e2, e3, ?_⟩⟩
    rw [kup_n (kne1 hf1.symm), kup_s, kfst_up hg hb']

abbrev eIO : String := "java/lang/IndexOutOfBoundsException"
abbrev eIA : String := "java/lang/IllegalArgumentException"
abbrev eIS : String := "java/lang/IllegalStateException"
def kin (x lo hi : Int32) : Prop := ¬ x < lo ∧ x ≤ hi
def kix (x : Int32) (n : Nat) : Prop := ¬ x < 0 ∧ x < nI n
theorem kix.ex {x : Int32} {n : Nat} (h : kix x n) (hn : n < 2 ^ 31) : ∃ i : Nat, i < n ∧ x = nI i := by
  rcases pk_ix x hn with q | q | ⟨j, h1, h2⟩
  · exact absurd q h.1
  · exact absurd h.2 (fun z => Int32.lt_irrefl (Int32.lt_of_lt_of_le z q))
  · exact ⟨j, h1, h2⟩
theorem kix.of {i n : Nat} (h : i < n) (hn : n < 2 ^ 31) : kix (nI i) n := ⟨nI_pos (by omega), nI_lt h hn⟩

theorem kth_B1 : ∀ w ∈ (vx_atS RX5 208 "java/lang/IndexOutOfBoundsException" ["java/lang/RuntimeException", "java/lang/Exception"]).filter goodWord, w ∈ wsL_law := fun w h => List.mem_append_right _ h
theorem kth_B2 : ∀ w ∈ (vx_atS RX5 208 "java/lang/IndexOutOfBoundsException" ["java/lang/RuntimeException", "java/lang/Exception"]).filter (fun w => !goodWord w), w ∈ [Cond.castable "java/lang/IndexOutOfBoundsException" "java/lang/IndexOutOfBoundsException", .declares (Bundle.initS "java/lang/RuntimeException"), .declares (Bundle.initS "java/lang/Exception"), .declares (Bundle.initS "java/lang/Throwable")] := by decide +kernel
theorem kth_B3 : ∀ w ∈ Cond.classLink RX5 204 "java/lang/IndexOutOfBoundsException" :: Cond.initialized "java/lang/IndexOutOfBoundsException" :: vx_atS RX5 208 "java/lang/IndexOutOfBoundsException" ["java/lang/RuntimeException", "java/lang/Exception"], vx_ot w = true := by decide +kernel
theorem k_thrB {Γ : kG} {E : kE} {A : Nat → Prop} {cc : ByteArray} {C : kC} {L : kL} {cells slots pc : Nat} {lo : List (Nat × Value)} {rest : List Value} {PX : String → Prop} {mc ms : Nat} (X : kX Γ E A cc RX5) (hT : kThr Γ E A PX C L mc ms) (hPX : PX eIO) {text : String} {is : Nat} (hstr : (is, text) ∈ kStr)
    (d0 : decode cc pc = .ok (.new 204, 3)) (d3 : decode cc (pc + 3) = .ok (.dup, 1)) (d4 : decode cc (pc + 4) = .ok (.ldc is, 2)) (d6 : decode cc (pc + 6) = .ok (.invokespecial 208, 3)) (d9 : decode cc (pc + 9) = .ok (.athrow, 1))
    (hRf : 5 < (kRm Γ).frames) (hRl : (rest.map fun v => v.category).sum + 82 ≤ (kRm Γ).locals) (hRc : cells + 1 ≤ (kRm Γ).cells) (hRs : slots + 6 ≤ (kRm Γ).slots) (hc : cells + 1 ≤ mc) (hs : slots + 6 ≤ ms) : kW Γ E A C L cells slots pc lo rest :=
  k_throw X hT (cls := "java/lang/IndexOutOfBoundsException") (by decide +kernel) kb_172 kb_173 hstr kth_B1 kth_B2 (by simp [kCas]) kth_B3 hPX d0 d3 d4 d6 d9 hRf hRl hRc hRs hc hs

theorem kth_A1 : ∀ w ∈ (vx_atS RX5 131 "java/lang/IllegalArgumentException" ["java/lang/RuntimeException", "java/lang/Exception"]).filter goodWord, w ∈ wsL_law := fun w h => List.mem_append_left _ (List.mem_append_right _ h)
theorem kth_A2 : ∀ w ∈ (vx_atS RX5 131 "java/lang/IllegalArgumentException" ["java/lang/RuntimeException", "java/lang/Exception"]).filter (fun w => !goodWord w), w ∈ [Cond.castable "java/lang/IllegalArgumentException" "java/lang/IllegalArgumentException", .declares (Bundle.initS "java/lang/RuntimeException"), .declares (Bundle.initS "java/lang/Exception"), .declares (Bundle.initS "java/lang/Throwable")] := by decide +kernel
theorem kth_A3 : ∀ w ∈ Cond.classLink RX5 127 "java/lang/IllegalArgumentException" :: Cond.initialized "java/lang/IllegalArgumentException" :: vx_atS RX5 131 "java/lang/IllegalArgumentException" ["java/lang/RuntimeException", "java/lang/Exception"], vx_ot w = true := by decide +kernel
theorem k_thrA {Γ : kG} {E : kE} {A : Nat → Prop} {cc : ByteArray} {C : kC} {L : kL} {cells slots pc : Nat} {lo : List (Nat × Value)} {rest : List Value} {PX : String → Prop} {mc ms : Nat} (X : kX Γ E A cc RX5) (hT : kThr Γ E A PX C L mc ms) (hPX : PX eIA) {text : String} {is : Nat} (hstr : (is, text) ∈ kStr)
    (d0 : decode cc pc = .ok (.new 127, 3)) (d3 : decode cc (pc + 3) = .ok (.dup, 1)) (d4 : decode cc (pc + 4) = .ok (.ldc is, 2)) (d6 : decode cc (pc + 6) = .ok (.invokespecial 131, 3)) (d9 : decode cc (pc + 9) = .ok (.athrow, 1))
    (hRf : 5 < (kRm Γ).frames) (hRl : (rest.map fun v => v.category).sum + 82 ≤ (kRm Γ).locals) (hRc : cells + 1 ≤ (kRm Γ).cells) (hRs : slots + 6 ≤ (kRm Γ).slots) (hc : cells + 1 ≤ mc) (hs : slots + 6 ≤ ms) : kW Γ E A C L cells slots pc lo rest :=
  k_throw X hT (cls := "java/lang/IllegalArgumentException") (by decide +kernel) kb_87 kb_88 hstr kth_A1 kth_A2 (by simp [kCas]) kth_A3 hPX d0 d3 d4 d6 d9 hRf hRl hRc hRs hc hs

theorem kth_S1 : ∀ w ∈ (vx_atS RX5 39 "java/lang/IllegalStateException" ["java/lang/RuntimeException", "java/lang/Exception"]).filter goodWord, w ∈ wsL_law := fun w h => List.mem_append_left _ (List.mem_append_left _ (List.mem_append_right _ h))
theorem kth_S2 : ∀ w ∈ (vx_atS RX5 39 "java/lang/IllegalStateException" ["java/lang/RuntimeException", "java/lang/Exception"]).filter (fun w => !goodWord w), w ∈ [Cond.castable "java/lang/IllegalStateException" "java/lang/IllegalStateException", .declares (Bundle.initS "java/lang/RuntimeException"), .declares (Bundle.initS "java/lang/Exception"), .declares (Bundle.initS "java/lang/Throwable")] := by decide +kernel
theorem kth_S3 : ∀ w ∈ Cond.classLink RX5 35 "java/lang/IllegalStateException" :: Cond.initialized "java/lang/IllegalStateException" :: vx_atS RX5 39 "java/lang/IllegalStateException" ["java/lang/RuntimeException", "java/lang/Exception"], vx_ot w = true := by decide +kernel
theorem k_thrS {Γ : kG} {E : kE} {A : Nat → Prop} {cc : ByteArray} {C : kC} {L : kL} {cells slots pc : Nat} {lo : List (Nat × Value)} {rest : List Value} {PX : String → Prop} {mc ms : Nat} (X : kX Γ E A cc RX5) (hT : kThr Γ E A PX C L mc ms) (hPX : PX eIS) {text : String} {is : Nat} (hstr : (is, text) ∈ kStr)
    (d0 : decode cc pc = .ok (.new 35, 3)) (d3 : decode cc (pc + 3) = .ok (.dup, 1)) (d4 : decode cc (pc + 4) = .ok (.ldc is, 2)) (d6 : decode cc (pc + 6) = .ok (.invokespecial 39, 3)) (d9 : decode cc (pc + 9) = .ok (.athrow, 1))
    (hRf : 5 < (kRm Γ).frames) (hRl : (rest.map fun v => v.category).sum + 82 ≤ (kRm Γ).locals) (hRc : cells + 1 ≤ (kRm Γ).cells) (hRs : slots + 6 ≤ (kRm Γ).slots) (hc : cells + 1 ≤ mc) (hs : slots + 6 ≤ ms) : kW Γ E A C L cells slots pc lo rest :=
  k_throw X hT (cls := "java/lang/IllegalStateException") (by decide +kernel) kb_79 kb_80 hstr kth_S1 kth_S2 (by simp [kCas]) kth_S3 hPX d0 d3 d4 d6 d9 hRf hRl hRc hRs hc hs

set_option maxHeartbeats 4000000 in
set_option maxRecDepth 100000 in
theorem c_checkRange {l : Launch} (htr : l.stackTraces = false) {E : kE} {A : Nat → Prop} {C : kC} {L : kL} (x lo9 hi9 : Int32) : kMX l yX5_checkRange cX5_checkRange 3 none 6 82 1 6 E A C L [.int x, .int lo9, .int hi9] (fun v C' L' => kin x lo9 hi9 ∧ v = none ∧ L = L' ∧ C = C') (fun X9 => X9 = eIA ∧ ¬ kin x lo9 hi9) := by
  refine kMX.of htr (by decide) (Nat.le_of_ble_eq_true rfl) (fun Γ hl hR hN X hE hT => ?_)
  refine k_lo (lo' := [(0, .int x), (1, .int lo9), (2, .int hi9)]) ⟨rfl, rfl, rfl, trivial⟩ ?_
  refine k_iload_n X dX5_checkRange_0 rfl rfl ?_
  refine k_iload_n X dX5_checkRange_1 rfl rfl ?_
  refine k_icmp_lt (tgt := 10) X dX5_checkRange_2 (by decide) (fun c2 => ?_) (fun c2 => ?_)
  ·
    exact k_thrA X hT ⟨rfl, by first | exact fun z => z.1 c2 | exact fun z => c7 z.2⟩ (is := 215) (text := "an argument is out of range") (by simp [kStr]) dX5_checkRange_10 dX5_checkRange_13 dX5_checkRange_14 dX5_checkRange_16 dX5_checkRange_19 (by rw [hR]; exact Nat.lt_of_lt_of_le (by decide : 5 < 6) (Nat.le_of_ble_eq_true rfl)) (by rw [hR]; exact Nat.le_of_ble_eq_true rfl) (by rw [hR]; exact Nat.le_of_ble_eq_true rfl) (by rw [hR]; exact Nat.le_of_ble_eq_true rfl) (by omega) (by omega)
  ·
    refine k_iload_n X dX5_checkRange_5 rfl rfl ?_
    refine k_iload_n X dX5_checkRange_6 rfl rfl ?_
    refine k_icmp_le (tgt := 20) X dX5_checkRange_7 (by decide) (fun c7 => ?_) (fun c7 => ?_)
    ·
      exact k_vret X hE dX5_checkRange_20 (by omega) (by omega) ⟨⟨by assumption, by assumption⟩, rfl, rfl, rfl⟩
    ·
      exact k_thrA X hT ⟨rfl, by first | exact fun z => z.1 c2 | exact fun z => c7 z.2⟩ (is := 215) (text := "an argument is out of range") (by simp [kStr]) dX5_checkRange_10 dX5_checkRange_13 dX5_checkRange_14 dX5_checkRange_16 dX5_checkRange_19 (by rw [hR]; exact Nat.lt_of_lt_of_le (by decide : 5 < 6) (Nat.le_of_ble_eq_true rfl)) (by rw [hR]; exact Nat.le_of_ble_eq_true rfl) (by rw [hR]; exact Nat.le_of_ble_eq_true rfl) (by rw [hR]; exact Nat.le_of_ble_eq_true rfl) (by omega) (by omega)

set_option maxHeartbeats 4000000 in
set_option maxRecDepth 100000 in
theorem c_checkField {l : Launch} (htr : l.stackTraces = false) {E : kE} {A : Nat → Prop} {C : kC} {L : kL} (f : Int32) : kMX l yX5_checkField cX5_checkField 1 none 7 104 1 6 E A C L [.int f] (fun v C' L' => kin f (nI 0) (nI 1) ∧ v = none ∧ L = L' ∧ C = C') (fun X9 => X9 = eIA ∧ ¬ kin f (nI 0) (nI 1)) := by
  refine kMX.of htr (by decide) (Nat.le_of_ble_eq_true rfl) (fun Γ hl hR hN X hE hT => ?_)
  refine k_lo (lo' := [(0, .int f)]) ⟨rfl, trivial⟩ ?_
  refine k_iload_n X dX5_checkField_0 rfl rfl ?_
  refine k_iconst (v := (nI 0)) X dX5_checkField_1 (by decide) ?_
  refine k_iconst (v := (nI 1)) X dX5_checkField_2 (by decide) ?_
  refine k_callSX (rest := []) X hT ks_X5_checkRange kb_84 (c_checkRange X.tr f (nI 0) (nI 1)) (fun _ h => ⟨h, rfl, rfl⟩) rfl rfl (Nat.le_of_ble_eq_true rfl) ⟨by rw [hR]; exact Nat.le_of_ble_eq_true rfl, by rw [hR]; exact Nat.le_of_ble_eq_true rfl⟩ ⟨by rw [hR]; exact Nat.le_of_ble_eq_true rfl, by rw [hR]; exact Nat.le_of_ble_eq_true rfl⟩ ⟨by omega, by omega⟩ dX5_checkField_3 (fun v3 C9 L9 h9 => ?_)
  obtain ⟨hp, rfl, rfl, rfl⟩ := h9
  exact k_vret X hE dX5_checkField_6 (by omega) (by omega) ⟨hp, rfl, rfl, rfl⟩

set_option maxHeartbeats 4000000 in
set_option maxRecDepth 100000 in
theorem c_checkValue {l : Launch} (htr : l.stackTraces = false) {E : kE} {A : Nat → Prop} {C : kC} {L : kL} (f x : Int32) : kMX l yX5_checkValue cX5_checkValue 2 none 8 124 2 12 E A C L [.int f, .int x] (fun v C' L' => (kin f (nI 0) (nI 1) ∧ kin x (nI 0) (if f = nI 0 then nI 2 else nI 10000)) ∧ v = none ∧ L = L' ∧ C = C') (fun X9 => X9 = eIA ∧ ¬ (kin f (nI 0) (nI 1) ∧ kin x (nI 0) (if f = nI 0 then nI 2 else nI 10000))) := by
  refine kMX.of htr (by decide) (Nat.le_of_ble_eq_true rfl) (fun Γ hl hR hN X hE hT => ?_)
  refine k_lo (lo' := [(0, .int f), (1, .int x)]) ⟨rfl, rfl, trivial⟩ ?_
  refine k_iload_n X dX5_checkValue_0 rfl rfl ?_
  refine k_callSX (rest := []) X hT ks_X5_checkField kb_202 (c_checkField X.tr f) (fun _ h => ⟨⟨h.1, fun z => h.2 z.1⟩, rfl, rfl⟩) rfl rfl (Nat.le_of_ble_eq_true rfl) ⟨by rw [hR]; exact Nat.le_of_ble_eq_true rfl, by rw [hR]; exact Nat.le_of_ble_eq_true rfl⟩ ⟨by rw [hR]; exact Nat.le_of_ble_eq_true rfl, by rw [hR]; exact Nat.le_of_ble_eq_true rfl⟩ ⟨by omega, by omega⟩ dX5_checkValue_1 (fun v1 C9 L9 h9 => ?_)
  obtain ⟨hp, rfl, rfl, rfl⟩ := h9
  refine k_iload_n X dX5_checkValue_4 rfl rfl ?_
  refine k_iconst (v := (nI 0)) X dX5_checkValue_5 (by decide) ?_
  refine k_iload_n X dX5_checkValue_6 rfl rfl ?_
  refine k_if_ne (tgt := 14) X dX5_checkValue_7 (by decide) (fun c7 => ?_) (fun c7 => ?_)
  ·
    refine k_sipush (v := (nI 10000)) X dX5_checkValue_14 (by decide) ?_
    refine k_callSX (rest := []) X hT ks_X5_checkRange kb_84 (c_checkRange X.tr x (nI 0) (nI 10000)) (fun _ h => ⟨⟨h.1, fun z => h.2 (by have := z.2; simp_all [nI_0])⟩, rfl, rfl⟩) rfl rfl (Nat.le_of_ble_eq_true rfl) ⟨by rw [hR]; exact Nat.le_of_ble_eq_true rfl, by rw [hR]; exact Nat.le_of_ble_eq_true rfl⟩ ⟨by rw [hR]; exact Nat.le_of_ble_eq_true rfl, by rw [hR]; exact Nat.le_of_ble_eq_true rfl⟩ ⟨by omega, by omega⟩ dX5_checkValue_17 (fun v17 C9 L9 h9 => ?_)
    obtain ⟨hq, rfl, rfl, rfl⟩ := h9
    exact k_vret X hE dX5_checkValue_20 (by omega) (by omega) ⟨⟨hp, by simp_all [nI_0]⟩, rfl, rfl, rfl⟩
  ·
    refine k_iconst (v := (nI 2)) X dX5_checkValue_10 (by decide) ?_
    refine k_goto (tgt := 17) X dX5_checkValue_11 (by decide) ?_
    refine k_callSX (rest := []) X hT ks_X5_checkRange kb_84 (c_checkRange X.tr x (nI 0) (nI 2)) (fun _ h => ⟨⟨h.1, fun z => h.2 (by have := z.2; simp_all [nI_0])⟩, rfl, rfl⟩) rfl rfl (Nat.le_of_ble_eq_true rfl) ⟨by rw [hR]; exact Nat.le_of_ble_eq_true rfl, by rw [hR]; exact Nat.le_of_ble_eq_true rfl⟩ ⟨by rw [hR]; exact Nat.le_of_ble_eq_true rfl, by rw [hR]; exact Nat.le_of_ble_eq_true rfl⟩ ⟨by omega, by omega⟩ dX5_checkValue_17 (fun v17 C9 L9 h9 => ?_)
    obtain ⟨hq, rfl, rfl, rfl⟩ := h9
    exact k_vret X hE dX5_checkValue_20 (by omega) (by omega) ⟨⟨hp, by simp_all [nI_0]⟩, rfl, rfl, rfl⟩

set_option maxHeartbeats 4000000 in
set_option maxRecDepth 100000 in
theorem c_isStep {l : Launch} (htr : l.stackTraces = false) {E : kE} {A : Nat → Prop} {C : kC} {L : kL} (x y : Int32) : kM l yX5_isStep cX5_isStep 2 (some .boolean) 0 0 0 0 E A C L [.int x, .int y] (fun v C' L' => v = some (.int (if (x = nI 0 ∧ y = nI 1) ∨ (x = nI 1 ∧ y = nI 2) then nI 1 else nI 0)) ∧ L = L' ∧ C = C') := by
  refine kM.of htr (by decide) (Nat.le_of_ble_eq_true rfl) (fun Γ hl hR hN hnm X hE => ?_)
  refine k_lo (lo' := [(0, .int x), (1, .int y)]) ⟨rfl, rfl, trivial⟩ ?_
  refine k_iload_n X dX5_isStep_0 rfl rfl ?_
  refine k_if_ne (tgt := 9) X dX5_isStep_1 (by decide) (fun c1 => ?_) (fun c1 => ?_)
  ·
    refine k_iload_n X dX5_isStep_9 rfl rfl ?_
    refine k_iconst (v := (nI 1)) X dX5_isStep_10 (by decide) ?_
    refine k_icmp_ne (tgt := 23) X dX5_isStep_11 (by decide) (fun c11 => ?_) (fun c11 => ?_)
    ·
      refine k_iconst (v := (nI 0)) X dX5_isStep_23 (by decide) ?_
      exact k_zret X hE kz0 dX5_isStep_24 (by omega) (by omega) ⟨by simp_all [nI_0], rfl, rfl⟩
    ·
      refine k_iload_n X dX5_isStep_14 rfl rfl ?_
      refine k_iconst (v := (nI 2)) X dX5_isStep_15 (by decide) ?_
      refine k_icmp_ne (tgt := 23) X dX5_isStep_16 (by decide) (fun c16 => ?_) (fun c16 => ?_)
      ·
        refine k_iconst (v := (nI 0)) X dX5_isStep_23 (by decide) ?_
        exact k_zret X hE kz0 dX5_isStep_24 (by omega) (by omega) ⟨by simp_all [nI_0], rfl, rfl⟩
      ·
        refine k_iconst (v := (nI 1)) X dX5_isStep_19 (by decide) ?_
        refine k_goto (tgt := 24) X dX5_isStep_20 (by decide) ?_
        exact k_zret X hE kz1 dX5_isStep_24 (by omega) (by omega) ⟨by simp_all [nI_0], rfl, rfl⟩
  ·
    refine k_iload_n X dX5_isStep_4 rfl rfl ?_
    refine k_iconst (v := (nI 1)) X dX5_isStep_5 (by decide) ?_
    refine k_icmp_eq (tgt := 19) X dX5_isStep_6 (by decide) (fun c6 => ?_) (fun c6 => ?_)
    ·
      refine k_iconst (v := (nI 1)) X dX5_isStep_19 (by decide) ?_
      refine k_goto (tgt := 24) X dX5_isStep_20 (by decide) ?_
      exact k_zret X hE kz1 dX5_isStep_24 (by omega) (by omega) ⟨by simp_all [nI_0], rfl, rfl⟩
    ·
      refine k_iload_n X dX5_isStep_9 rfl rfl ?_
      refine k_iconst (v := (nI 1)) X dX5_isStep_10 (by decide) ?_
      refine k_icmp_ne (tgt := 23) X dX5_isStep_11 (by decide) (fun c11 => ?_) (fun c11 => ?_)
      ·
        refine k_iconst (v := (nI 0)) X dX5_isStep_23 (by decide) ?_
        exact k_zret X hE kz0 dX5_isStep_24 (by omega) (by omega) ⟨by simp_all [nI_0], rfl, rfl⟩
      ·
        refine k_iload_n X dX5_isStep_14 rfl rfl ?_
        refine k_iconst (v := (nI 2)) X dX5_isStep_15 (by decide) ?_
        refine k_icmp_ne (tgt := 23) X dX5_isStep_16 (by decide) (fun c16 => ?_) (fun c16 => ?_)
        ·
          refine k_iconst (v := (nI 0)) X dX5_isStep_23 (by decide) ?_
          exact k_zret X hE kz0 dX5_isStep_24 (by omega) (by omega) ⟨by simp_all [nI_0], rfl, rfl⟩
        ·
          refine k_iconst (v := (nI 1)) X dX5_isStep_19 (by decide) ?_
          refine k_goto (tgt := 24) X dX5_isStep_20 (by decide) ?_
          exact k_zret X hE kz1 dX5_isStep_24 (by omega) (by omega) ⟨by simp_all [nI_0], rfl, rfl⟩

set_option maxHeartbeats 4000000 in
set_option maxRecDepth 100000 in
theorem c_jobAt {l : Launch} (htr : l.stackTraces = false) {E : kE} {A : Nat → Prop} {C : kC} {L : kL} {S : kI4} {N : kN3} (hX : isX E C L S N) (hO : okX S N) (job : Int32) : kMX l yX5_jobAt cX5_jobAt 2 (some (.object "FieldStore$Job")) 6 82 1 6 E A C L [.ref (L (1, 0, 0)), .int job] (fun v C' L' => (∃ i, i < N 1 0 0 ∧ job = nI i ∧ v = some (.ref (L (14, i, 0)))) ∧ L = L' ∧ C = C') (fun X9 => X9 = eIO ∧ ¬ kix job (N 1 0 0)) := by
  obtain ⟨vl2, hl2⟩ := hX.1.2.1.hd
  refine kMX.of htr (by decide) (Nat.le_of_ble_eq_true rfl) (fun Γ hl hR hN X hE hT => ?_)
  refine k_lo (lo' := [(0, .ref (L (1, 0, 0))), (1, .int job)]) ⟨rfl, rfl, trivial⟩ ?_
  refine k_iload_n X dX5_jobAt_0 rfl rfl ?_
  refine k_if_lt (tgt := 15) X dX5_jobAt_1 (by decide) (fun c1 => ?_) (fun c1 => ?_)
  ·
    exact k_thrB X hT ⟨rfl, by first | exact fun z => z.1 c1 | exact fun z => c12 z.2⟩ (is := 206) (text := "no such job") (by simp [kStr]) dX5_jobAt_15 dX5_jobAt_18 dX5_jobAt_19 dX5_jobAt_21 dX5_jobAt_24 (by rw [hR]; exact Nat.lt_of_lt_of_le (by decide : 5 < 6) (Nat.le_of_ble_eq_true rfl)) (by rw [hR]; exact Nat.le_of_ble_eq_true rfl) (by rw [hR]; exact Nat.le_of_ble_eq_true rfl) (by rw [hR]; exact Nat.le_of_ble_eq_true rfl) (by omega) (by omega)
  ·
    refine k_iload_n X dX5_jobAt_4 rfl rfl ?_
    refine k_aload_n X dX5_jobAt_5 rfl rfl ?_
    refine k_get0 X hX.1.1.1 (q := (RX5, TX5, 3)) rfl inlX5 0 (by decide) kb_13 (Or.inl rfl) rfl rfl dX5_jobAt_6 ?_
    refine k_callV (rest := [.int job]) X kv_Jx4a65c_size_8abf5 kb_63 (c_Ls_size X.tr hX.1.2.1) hl2 rfl rfl rfl rfl rfl (Nat.le_of_ble_eq_true rfl) ⟨by rw [hR]; exact Nat.le_of_ble_eq_true rfl, by rw [hR]; exact Nat.le_of_ble_eq_true rfl⟩ ⟨by rw [hR]; exact Nat.le_of_ble_eq_true rfl, by rw [hR]; exact Nat.le_of_ble_eq_true rfl⟩ dX5_jobAt_9 (fun v9 C9 L9 h9 => ?_)
    obtain ⟨rfl, rfl, rfl⟩ := h9
    refine k_icmp_lt (tgt := 25) X dX5_jobAt_12 (by decide) (fun c12 => ?_) (fun c12 => ?_)
    ·
      refine k_aload_n X dX5_jobAt_25 rfl rfl ?_
      refine k_get0 X hX.1.1.1 (q := (RX5, TX5, 3)) rfl inlX5 0 (by decide) kb_13 (Or.inl rfl) rfl rfl dX5_jobAt_26 ?_
      refine k_iload_n X dX5_jobAt_29 rfl rfl ?_
      obtain ⟨i, hi, rfl⟩ := kix.ex (x := job) (n := N 1 0 0) ⟨c1, c12⟩ (by have := hO.1; omega)
      refine k_callV (rest := []) X kv_Jx4a65c_get_915e3 kb_175 (c_Ls_get X.tr hX.1.2.1 i hi (by have := hO.1; omega)) hl2 rfl rfl rfl rfl rfl (Nat.le_of_ble_eq_true rfl) ⟨by rw [hR]; exact Nat.le_of_ble_eq_true rfl, by rw [hR]; exact Nat.le_of_ble_eq_true rfl⟩ ⟨by rw [hR]; exact Nat.le_of_ble_eq_true rfl, by rw [hR]; exact Nat.le_of_ble_eq_true rfl⟩ dX5_jobAt_30 (fun v30 C9 L9 h9 => ?_)
      obtain ⟨rfl, rfl, rfl⟩ := h9
      refine k_cast X (hX.1.2.2.2 i hi).1 (r := (RX3, TX3, 3)) rfl rfl kb_81 dX5_jobAt_33 ?_
      exact k_aret X hE (Or.inl ⟨_, rfl⟩) (Or.inr ⟨_, rfl⟩) dX5_jobAt_36 (by omega) (by omega) ⟨⟨i, hi, rfl, rfl⟩, rfl, rfl⟩
    ·
      exact k_thrB X hT ⟨rfl, by first | exact fun z => z.1 c1 | exact fun z => c12 z.2⟩ (is := 206) (text := "no such job") (by simp [kStr]) dX5_jobAt_15 dX5_jobAt_18 dX5_jobAt_19 dX5_jobAt_21 dX5_jobAt_24 (by rw [hR]; exact Nat.lt_of_lt_of_le (by decide : 5 < 6) (Nat.le_of_ble_eq_true rfl)) (by rw [hR]; exact Nat.le_of_ble_eq_true rfl) (by rw [hR]; exact Nat.le_of_ble_eq_true rfl) (by rw [hR]; exact Nat.le_of_ble_eq_true rfl) (by omega) (by omega)

set_option maxHeartbeats 4000000 in
set_option maxRecDepth 100000 in
theorem c_deviceAt {l : Launch} (htr : l.stackTraces = false) {E : kE} {A : Nat → Prop} {C : kC} {L : kL} {S : kI4} {N : kN3} (hX : isX E C L S N) (hO : okX S N) (dv : Int32) : kMX l yX5_deviceAt cX5_deviceAt 2 (some (.object "FieldStore$Device")) 6 82 1 6 E A C L [.ref (L (1, 0, 0)), .int dv] (fun v C' L' => (∃ d, d < 4 ∧ dv = nI d ∧ v = some (.ref (L (5, d, 0)))) ∧ L = L' ∧ C = C') (fun X9 => X9 = eIO ∧ ¬ kix dv 4) := by
  refine kMX.of htr (by decide) (Nat.le_of_ble_eq_true rfl) (fun Γ hl hR hN X hE hT => ?_)
  refine k_lo (lo' := [(0, .ref (L (1, 0, 0))), (1, .int dv)]) ⟨rfl, rfl, trivial⟩ ?_
  refine k_iload_n X dX5_deviceAt_0 rfl rfl ?_
  refine k_if_lt (tgt := 9) X dX5_deviceAt_1 (by decide) (fun c1 => ?_) (fun c1 => ?_)
  ·
    exact k_thrB X hT ⟨rfl, by first | exact fun z => z.1 c1 | exact fun z => c6 z.2⟩ (is := 209) (text := "no such device") (by simp [kStr]) dX5_deviceAt_9 dX5_deviceAt_12 dX5_deviceAt_13 dX5_deviceAt_15 dX5_deviceAt_18 (by rw [hR]; exact Nat.lt_of_lt_of_le (by decide : 5 < 6) (Nat.le_of_ble_eq_true rfl)) (by rw [hR]; exact Nat.le_of_ble_eq_true rfl) (by rw [hR]; exact Nat.le_of_ble_eq_true rfl) (by rw [hR]; exact Nat.le_of_ble_eq_true rfl) (by omega) (by omega)
  ·
    refine k_iload_n X dX5_deviceAt_4 rfl rfl ?_
    refine k_iconst (v := (nI 4)) X dX5_deviceAt_5 (by decide) ?_
    refine k_icmp_lt (tgt := 19) X dX5_deviceAt_6 (by decide) (fun c6 => ?_) (fun c6 => ?_)
    ·
      refine k_aload_n X dX5_deviceAt_19 rfl rfl ?_
      refine k_get0 X hX.1.1.1 (q := (RX5, TX5, 3)) rfl inlX5 1 (by decide) kb_15 (Or.inl rfl) rfl rfl dX5_deviceAt_20 ?_
      refine k_iload_n X dX5_deviceAt_23 rfl rfl ?_
      obtain ⟨d, hd, rfl⟩ := kix.ex (x := dv) (n := 4) ⟨c1, c6⟩ (by decide)
      refine k_aald X hX.1.2.2.1 (nm := RX1) rfl rfl (vp_in_nI hd (by decide)) dX5_deviceAt_24 (v := .ref (L (5, d, 0))) (by rw [nI_clamp (by omega), kfst_in hd]; rfl) ?_
      exact k_aret X hE (Or.inl ⟨_, rfl⟩) (Or.inr ⟨_, rfl⟩) dX5_deviceAt_25 (by omega) (by omega) ⟨⟨d, hd, rfl, rfl⟩, rfl, rfl⟩
    ·
      exact k_thrB X hT ⟨rfl, by first | exact fun z => z.1 c1 | exact fun z => c6 z.2⟩ (is := 209) (text := "no such device") (by simp [kStr]) dX5_deviceAt_9 dX5_deviceAt_12 dX5_deviceAt_13 dX5_deviceAt_15 dX5_deviceAt_18 (by rw [hR]; exact Nat.lt_of_lt_of_le (by decide : 5 < 6) (Nat.le_of_ble_eq_true rfl)) (by rw [hR]; exact Nat.le_of_ble_eq_true rfl) (by rw [hR]; exact Nat.le_of_ble_eq_true rfl) (by rw [hR]; exact Nat.le_of_ble_eq_true rfl) (by omega) (by omega)
end
section
theorem isX.f15 {E : kE} {C C' : kC} {L L' : kL} {S S' : kI4} {N N' : kN3} {i : Nat} (hv : C' (15, i, 0) = some (kF S' 3 i 0)) (h : isX E C L S N) (hC : ∀ f d' k, ¬ (f = 15 ∧ d' = i) → C' (f, d', k) = C (f, d', k)) (hL : ∀ f d' k, f = f → L' (f, d', k) = L (f, d', k)) (hS : ∀ f d' k j, ¬ (f = 3 ∧ d' = i) → S' f d' k j = S f d' k j) (hN : ∀ f d' k, f = f → N' f d' k = N f d' k) : isX E C' L' S' N' := by
  obtain ⟨hc9, hd9⟩ := h
  refine ⟨?_, fun d hd => (hd9 d hd).keep (fun f k _ _ _ _ => hC f d k (by omega)) (fun f k _ _ _ _ => hL f d k (by omega)) (fun f k j _ _ => hS f d k j (by omega)) (fun f k _ _ => hN f d k (by omega))⟩
  obtain ⟨⟨h11, h10⟩, h2, h3, h4⟩ := hc9
  have hN1 := hN 1 0 0 rfl
  have cc9 : ∀ f x9, (¬ (f = 15 ∧ x9 = i)) → C' (f, x9, 0) = C (f, x9, 0) := fun f x9 z => hC f x9 0 z
  have lq : ∀ f x9, (f = f) → L' (f, x9, 0) = L (f, x9, 0) := fun f x9 z => hL f x9 0 z
  have qq9 : ∀ f x9 j, (¬ (f = 3 ∧ x9 = i)) → S' f x9 0 j = S f x9 0 j := fun f x9 j z => hS f x9 0 j z
  refine ⟨?_, ?_, ?_, ?_⟩
  ·
    refine ⟨?_, by rw [(cc9 60 0 (by omega))]; exact h10⟩
    rw [(cc9 1 0 (by omega)), h11, (lq 2 0 (by omega)), (lq 4 0 (by omega)), qq9 12 0 0 (by omega)]
  ·
    rw [hN1]
    exact h2.keep (cc9 2 0 (by omega)) (cc9 3 0 (by omega)) (lq 3 0 (by omega)) (fun j _ => (lq 14 j (by omega)))
  ·
    rw [(cc9 4 0 (by omega)), h3]
    have e : ∀ d, L' (5, d, 0) = L (5, d, 0) := fun d => (lq 5 d (by omega))
    simp only [e]
  ·
    intro i9 hi
    rw [hN1] at hi
    by_cases e : i9 = i
    · subst e
      refine ⟨?_, hv⟩
      rw [(cc9 14 i9 (by omega)), (h4 i9 hi).1, lq 15 i9 (by omega), qq9 1 i9 0 (by omega), qq9 2 i9 0 (by omega)]
    · rw [(cc9 14 i9 (by omega)), (cc9 15 i9 (by omega)), (h4 i9 hi).1, (h4 i9 hi).2, lq 15 i9 (by omega), qq9 1 i9 0 (by omega), qq9 2 i9 0 (by omega)]
      simp only [kF, qq9 3 i9 0 (by omega), qq9 3 i9 1 (by omega), qq9 3 i9 2 (by omega), qq9 3 i9 3 (by omega), and_self]

theorem isX.j14 {E : kE} {C C' : kC} {L L' : kL} {S S' : kI4} {N N' : kN3} {i : Nat} (hv : C' (14, i, 0) = some (.inr (4, [.int (S' 1 i 0 0), .int (S' 2 i 0 0), .ref (L' (15, i, 0))]))) (h : isX E C L S N) (hC : ∀ f d' k, ¬ (f = 14 ∧ d' = i) → C' (f, d', k) = C (f, d', k)) (hL : ∀ f d' k, f = f → L' (f, d', k) = L (f, d', k)) (hS : ∀ f d' k j, ¬ ((f = 1 ∨ f = 2) ∧ d' = i) → S' f d' k j = S f d' k j) (hN : ∀ f d' k, f = f → N' f d' k = N f d' k) : isX E C' L' S' N' := by
  obtain ⟨hc9, hd9⟩ := h
  refine ⟨?_, fun d hd => (hd9 d hd).keep (fun f k _ _ _ _ => hC f d k (by omega)) (fun f k _ _ _ _ => hL f d k (by omega)) (fun f k j _ _ => hS f d k j (by omega)) (fun f k _ _ => hN f d k (by omega))⟩
  obtain ⟨⟨h11, h10⟩, h2, h3, h4⟩ := hc9
  have hN1 := hN 1 0 0 rfl
  have cc9 : ∀ f x9, (¬ (f = 14 ∧ x9 = i)) → C' (f, x9, 0) = C (f, x9, 0) := fun f x9 z => hC f x9 0 z
  have lq : ∀ f x9, (f = f) → L' (f, x9, 0) = L (f, x9, 0) := fun f x9 z => hL f x9 0 z
  have qq9 : ∀ f x9 j, (¬ ((f = 1 ∨ f = 2) ∧ x9 = i)) → S' f x9 0 j = S f x9 0 j := fun f x9 j z => hS f x9 0 j z
  refine ⟨?_, ?_, ?_, ?_⟩
  ·
    refine ⟨?_, by rw [(cc9 60 0 (by omega))]; exact h10⟩
    rw [(cc9 1 0 (by omega)), h11, (lq 2 0 (by omega)), (lq 4 0 (by omega)), qq9 12 0 0 (by omega)]
  ·
    rw [hN1]
    exact h2.keep (cc9 2 0 (by omega)) (cc9 3 0 (by omega)) (lq 3 0 (by omega)) (fun j _ => lq 14 j (by omega))
  ·
    rw [(cc9 4 0 (by omega)), h3]
    have e : ∀ d, L' (5, d, 0) = L (5, d, 0) := fun d => (lq 5 d (by omega))
    simp only [e]
  ·
    intro i9 hi
    rw [hN1] at hi
    by_cases e : i9 = i
    · subst e
      refine ⟨hv, ?_⟩
      rw [(cc9 15 i9 (by omega)), (h4 i9 hi).2]
      simp only [kF, qq9 3 i9 0 (by omega), qq9 3 i9 1 (by omega), qq9 3 i9 2 (by omega), qq9 3 i9 3 (by omega)]
    · rw [(cc9 14 i9 (by omega)), (cc9 15 i9 (by omega)), (h4 i9 hi).1, (h4 i9 hi).2, lq 15 i9 (by omega), qq9 1 i9 0 (by omega), qq9 2 i9 0 (by omega)]
      simp only [kF, qq9 3 i9 0 (by omega), qq9 3 i9 1 (by omega), qq9 3 i9 2 (by omega), qq9 3 i9 3 (by omega), and_self]

theorem isX.s1 {E : kE} {C C' : kC} {L L' : kL} {S S' : kI4} {N N' : kN3} (hv : C' (1, 0, 0) = some (.inr (6, [.ref (L' (2, 0, 0)), .ref (L' (4, 0, 0)), .int (S' 12 0 0 0)]))) (h : isX E C L S N) (hC : ∀ f d' k, f ≠ 1 → C' (f, d', k) = C (f, d', k)) (hL : ∀ f d' k, f = f → L' (f, d', k) = L (f, d', k)) (hS : ∀ f d' k j, f ≠ 12 → S' f d' k j = S f d' k j) (hN : ∀ f d' k, f = f → N' f d' k = N f d' k) : isX E C' L' S' N' := by
  obtain ⟨hc9, hd9⟩ := h
  refine ⟨?_, fun d hd => (hd9 d hd).keep (fun f k _ _ _ _ => hC f d k (by omega)) (fun f k _ _ _ _ => hL f d k (by omega)) (fun f k j _ _ => hS f d k j (by omega)) (fun f k _ _ => hN f d k (by omega))⟩
  obtain ⟨⟨h11, h10⟩, h2, h3, h4⟩ := hc9
  have hN1 := hN 1 0 0 rfl
  have cc9 : ∀ f x9, (f ≠ 1) → C' (f, x9, 0) = C (f, x9, 0) := fun f x9 z => hC f x9 0 z
  have lq : ∀ f x9, (f = f) → L' (f, x9, 0) = L (f, x9, 0) := fun f x9 z => hL f x9 0 z
  have qq9 : ∀ f x9 j, (f ≠ 12) → S' f x9 0 j = S f x9 0 j := fun f x9 j z => hS f x9 0 j z
  refine ⟨?_, ?_, ?_, ?_⟩
  ·
    exact ⟨hv, by rw [(cc9 60 0 (by omega))]; exact h10⟩
  ·
    rw [hN1]
    exact h2.keep (cc9 2 0 (by omega)) (cc9 3 0 (by omega)) (lq 3 0 (by omega)) (fun j _ => (lq 14 j (by omega)))
  ·
    rw [(cc9 4 0 (by omega)), h3]
    have e : ∀ d, L' (5, d, 0) = L (5, d, 0) := fun d => (lq 5 d (by omega))
    simp only [e]
  ·
    intro i9 hi
    rw [hN1] at hi
    rw [(cc9 14 i9 (by omega)), (cc9 15 i9 (by omega)), (h4 i9 hi).1, (h4 i9 hi).2, (lq 15 i9 (by omega)), qq9 1 i9 0 (by omega), qq9 2 i9 0 (by omega)]
    simp only [kF, qq9 3 i9 0 (by omega), qq9 3 i9 1 (by omega), qq9 3 i9 2 (by omega), qq9 3 i9 3 (by omega), and_self]

theorem isX.addJ {E : kE} {C C' : kC} {L L' : kL} {S S' : kI4} {N N' : kN3} (hl : kLs E C' L' 2 3 0 (N 1 0 0 + 1) (fun j => L' (14, j, 0))) (hN1 : N' 1 0 0 = N 1 0 0 + 1) (hj : C' (14, N 1 0 0, 0) = some (.inr (4, [.int (S' 1 (N 1 0 0) 0 0), .int (S' 2 (N 1 0 0) 0 0), .ref (L' (15, N 1 0 0, 0))]))) (hv : C' (15, N 1 0 0, 0) = some (kF S' 3 (N 1 0 0) 0)) (h : isX E C L S N) (hC : ∀ f d' k, ¬ (f = 2 ∨ f = 3 ∨ ((f = 14 ∨ f = 15) ∧ d' = N 1 0 0)) → C' (f, d', k) = C (f, d', k)) (hL : ∀ f d' k, ¬ (f = 3 ∨ ((f = 14 ∨ f = 15) ∧ d' = N 1 0 0)) → L' (f, d', k) = L (f, d', k)) (hS : ∀ f d' k j, ¬ ((f = 1 ∨ f = 2 ∨ f = 3) ∧ d' = N 1 0 0) → S' f d' k j = S f d' k j) (hN : ∀ f d' k, f ≠ 1 → N' f d' k = N f d' k) : isX E C' L' S' N' := by
  obtain ⟨hc9, hd9⟩ := h
  refine ⟨?_, fun d hd => (hd9 d hd).keep (fun f k _ _ _ _ => hC f d k (by omega)) (fun f k _ _ _ _ => hL f d k (by omega)) (fun f k j _ _ => hS f d k j (by omega)) (fun f k _ _ => hN f d k (by omega))⟩
  obtain ⟨⟨h11, h10⟩, h2, h3, h4⟩ := hc9
  
  have cc9 : ∀ f x9, (¬ (f = 2 ∨ f = 3 ∨ ((f = 14 ∨ f = 15) ∧ x9 = N 1 0 0))) → C' (f, x9, 0) = C (f, x9, 0) := fun f x9 z => hC f x9 0 z
  have lq : ∀ f x9, (¬ (f = 3 ∨ ((f = 14 ∨ f = 15) ∧ x9 = N 1 0 0))) → L' (f, x9, 0) = L (f, x9, 0) := fun f x9 z => hL f x9 0 z
  have qq9 : ∀ f x9 j, (¬ ((f = 1 ∨ f = 2 ∨ f = 3) ∧ x9 = N 1 0 0)) → S' f x9 0 j = S f x9 0 j := fun f x9 j z => hS f x9 0 j z
  refine ⟨?_, ?_, ?_, ?_⟩
  ·
    refine ⟨?_, by rw [(cc9 60 0 (by omega))]; exact h10⟩
    rw [(cc9 1 0 (by omega)), h11, (lq 2 0 (by omega)), (lq 4 0 (by omega)), qq9 12 0 0 (by omega)]
  ·
    rw [hN1]
    exact hl
  ·
    rw [(cc9 4 0 (by omega)), h3]
    have e : ∀ d, L' (5, d, 0) = L (5, d, 0) := fun d => (lq 5 d (by omega))
    simp only [e]
  ·
    intro i9 hi
    rw [hN1] at hi
    by_cases e : i9 = N 1 0 0
    · subst e
      exact ⟨hj, hv⟩
    · have hi2 : i9 < N 1 0 0 := by omega
      rw [(cc9 14 i9 (by omega)), (cc9 15 i9 (by omega)), (h4 i9 hi2).1, (h4 i9 hi2).2, (lq 15 i9 (by omega)), qq9 1 i9 0 (by omega), qq9 2 i9 0 (by omega)]
      simp only [kF, qq9 3 i9 0 (by omega), qq9 3 i9 1 (by omega), qq9 3 i9 2 (by omega), qq9 3 i9 3 (by omega), and_self]

theorem isX.d5 {E : kE} {C C' : kC} {L L' : kL} {S S' : kI4} {N N' : kN3} {d : Nat} (hv : C' (5, d, 0) = some (kDev L' S' N' d)) (h : isX E C L S N) (hC : ∀ f d' k, ¬ (f = 5 ∧ d' = d) → C' (f, d', k) = C (f, d', k)) (hL : ∀ f d' k, f = f → L' (f, d', k) = L (f, d', k)) (hS : ∀ f d' k j, ¬ ((f = 4 ∨ f = 6 ∨ f = 7) ∧ d' = d) → S' f d' k j = S f d' k j) (hN : ∀ f d' k, ¬ (f = 4 ∧ d' = d) → N' f d' k = N f d' k) : isX E C' L' S' N' := by
  obtain ⟨hc9, hd9⟩ := h
  refine ⟨hc9.keep (fun f i z => hC f i 0 (by omega)) (fun f i z => hL f i 0 (by omega)) (fun f i j z => hS f i 0 j (by omega)) (hN 1 0 0 (by omega)), fun d9 hd0 => ?_⟩
  by_cases e9 : d9 = d
  · subst e9
    obtain ⟨h1, h2, h3, h4, h5, h6, h7, h8, h9⟩ := hd9 d9 hd0
    
    have c : ∀ f k, (¬ (f = 5 ∧ d9 = d9)) → C' (f, d9, k) = C (f, d9, k) := fun f k z => hC f d9 k z
    have lq : ∀ f k, (f = f) → L' (f, d9, k) = L (f, d9, k) := fun f k z => hL f d9 k z
    have q : ∀ f k j, (¬ ((f = 4 ∨ f = 6 ∨ f = 7) ∧ d9 = d9)) → S' f d9 k j = S f d9 k j := fun f k j z => hS f d9 k j z
    have r : ∀ f k, (¬ (f = 4 ∧ d9 = d9)) → N' f d9 k = N f d9 k := fun f k z => hN f d9 k z
    refine ⟨?_, ?_, ?_, ?_, ?_, ?_, ?_, ?_, ?_⟩
    ·
      exact hv
    ·
      rw [(c 6 0 (by omega)), h2]
      have e : ∀ n, N' 11 d9 n = N 11 d9 n := fun n => r 11 n (by omega)
      have e2 : ∀ n, L' (16, d9, n) = L (16, d9, n) := fun n => (lq 16 n (by omega))
      simp only [kCps, e, e2]
    ·
      rw [(c 7 0 (by omega)), h3]
      have e : ∀ n, S' 5 d9 n 0 = S 5 d9 n 0 := fun n => q 5 n 0 (by omega)
      simp only [e]
    ·
      rw [r 2 0 (by omega)]
      exact h4.keep (c 8 0 (by omega)) (c 9 0 (by omega)) (lq 9 0 (by omega)) (fun j _ => (lq 17 j (by omega)))
    ·
      rw [r 3 0 (by omega)]
      exact h5.keep (c 10 0 (by omega)) (c 11 0 (by omega)) (lq 11 0 (by omega)) (fun j _ => (lq 19 j (by omega)))
    ·
      rw [r 5 0 (by omega)]
      exact h6.keep (c 12 0 (by omega)) (c 13 0 (by omega)) (lq 13 0 (by omega)) (fun j _ => by rw [r 6 j (by omega)]; exact (lq 19 _ (by omega)))
    ·
      intro n9 hn
      rw [r 11 n9 (by omega)] at hn
      rw [(c 16 n9 (by omega)), h7 n9 hn]
      simp only [kF, q 8 n9 0 (by omega), q 8 n9 1 (by omega), q 8 n9 2 (by omega), q 8 n9 3 (by omega)]
    ·
      intro k9 hk
      rw [r 2 0 (by omega)] at hk
      rw [(c 17 k9 (by omega)), (c 18 k9 (by omega)), (h8 k9 hk).1, (h8 k9 hk).2, (lq 18 k9 (by omega)), q 9 k9 0 (by omega)]
      simp only [kF, q 10 k9 0 (by omega), q 10 k9 1 (by omega), q 10 k9 2 (by omega), q 10 k9 3 (by omega), and_self]
    ·
      intro k9 hk
      rw [r 3 0 (by omega)] at hk
      rw [(c 19 k9 (by omega)), h9 k9 hk]
      simp only [kAct, q 11 k9 0 (by omega), q 11 k9 1 (by omega), q 11 k9 2 (by omega), q 11 k9 3 (by omega), q 11 k9 4 (by omega)]
  · exact (hd9 d9 hd0).keep (fun f k _ _ _ _ => hC f d9 k (by omega)) (fun f k _ _ _ _ => hL f d9 k (by omega)) (fun f k j _ _ => hS f d9 k j (by omega)) (fun f k _ _ => hN f d9 k (by omega))

theorem isX.a7 {E : kE} {C C' : kC} {L L' : kL} {S S' : kI4} {N N' : kN3} {d : Nat} (hv : C' (7, d, 0) = some (.inl (E.2.1 1, 40, .inl (fun n => S' 5 d n 0)))) (h : isX E C L S N) (hC : ∀ f d' k, ¬ (f = 7 ∧ d' = d) → C' (f, d', k) = C (f, d', k)) (hL : ∀ f d' k, f = f → L' (f, d', k) = L (f, d', k)) (hS : ∀ f d' k j, ¬ (f = 5 ∧ d' = d) → S' f d' k j = S f d' k j) (hN : ∀ f d' k, f = f → N' f d' k = N f d' k) : isX E C' L' S' N' := by
  obtain ⟨hc9, hd9⟩ := h
  refine ⟨hc9.keep (fun f i z => hC f i 0 (by omega)) (fun f i z => hL f i 0 (by omega)) (fun f i j z => hS f i 0 j (by omega)) (hN 1 0 0 (by omega)), fun d9 hd0 => ?_⟩
  by_cases e9 : d9 = d
  · subst e9
    obtain ⟨h1, h2, h3, h4, h5, h6, h7, h8, h9⟩ := hd9 d9 hd0
    
    have c : ∀ f k, (¬ (f = 7 ∧ d9 = d9)) → C' (f, d9, k) = C (f, d9, k) := fun f k z => hC f d9 k z
    have lq : ∀ f k, (f = f) → L' (f, d9, k) = L (f, d9, k) := fun f k z => hL f d9 k z
    have q : ∀ f k j, (¬ (f = 5 ∧ d9 = d9)) → S' f d9 k j = S f d9 k j := fun f k j z => hS f d9 k j z
    have r : ∀ f k, (f = f) → N' f d9 k = N f d9 k := fun f k z => hN f d9 k z
    refine ⟨?_, ?_, ?_, ?_, ?_, ?_, ?_, ?_, ?_⟩
    ·
      rw [(c 5 0 (by omega)), h1]
      simp only [kDev, q 4 0 0 (by omega), q 6 0 0 (by omega), q 7 0 0 (by omega), r 4 0 (by omega), (lq 6 0 (by omega)), (lq 7 0 (by omega)), (lq 8 0 (by omega)), (lq 10 0 (by omega)), (lq 12 0 (by omega))]
    ·
      rw [(c 6 0 (by omega)), h2]
      have e : ∀ n, N' 11 d9 n = N 11 d9 n := fun n => r 11 n (by omega)
      have e2 : ∀ n, L' (16, d9, n) = L (16, d9, n) := fun n => (lq 16 n (by omega))
      simp only [kCps, e, e2]
    ·
      exact hv
    ·
      rw [r 2 0 (by omega)]
      exact h4.keep (c 8 0 (by omega)) (c 9 0 (by omega)) (lq 9 0 (by omega)) (fun j _ => (lq 17 j (by omega)))
    ·
      rw [r 3 0 (by omega)]
      exact h5.keep (c 10 0 (by omega)) (c 11 0 (by omega)) (lq 11 0 (by omega)) (fun j _ => (lq 19 j (by omega)))
    ·
      rw [r 5 0 (by omega)]
      exact h6.keep (c 12 0 (by omega)) (c 13 0 (by omega)) (lq 13 0 (by omega)) (fun j _ => by rw [r 6 j (by omega)]; exact (lq 19 _ (by omega)))
    ·
      intro n9 hn
      rw [r 11 n9 (by omega)] at hn
      rw [(c 16 n9 (by omega)), h7 n9 hn]
      simp only [kF, q 8 n9 0 (by omega), q 8 n9 1 (by omega), q 8 n9 2 (by omega), q 8 n9 3 (by omega)]
    ·
      intro k9 hk
      rw [r 2 0 (by omega)] at hk
      rw [(c 17 k9 (by omega)), (c 18 k9 (by omega)), (h8 k9 hk).1, (h8 k9 hk).2, (lq 18 k9 (by omega)), q 9 k9 0 (by omega)]
      simp only [kF, q 10 k9 0 (by omega), q 10 k9 1 (by omega), q 10 k9 2 (by omega), q 10 k9 3 (by omega), and_self]
    ·
      intro k9 hk
      rw [r 3 0 (by omega)] at hk
      rw [(c 19 k9 (by omega)), h9 k9 hk]
      simp only [kAct, q 11 k9 0 (by omega), q 11 k9 1 (by omega), q 11 k9 2 (by omega), q 11 k9 3 (by omega), q 11 k9 4 (by omega)]
  · exact (hd9 d9 hd0).keep (fun f k _ _ _ _ => hC f d9 k (by omega)) (fun f k _ _ _ _ => hL f d9 k (by omega)) (fun f k j _ _ => hS f d9 k j (by omega)) (fun f k _ _ => hN f d9 k (by omega))

theorem isX.f16 {E : kE} {C C' : kC} {L L' : kL} {S S' : kI4} {N N' : kN3} {d n : Nat} (hv : C' (16, d, n) = some (kF S' 8 d n)) (h : isX E C L S N) (hC : ∀ f d' k, ¬ (f = 16 ∧ d' = d ∧ k = n) → C' (f, d', k) = C (f, d', k)) (hL : ∀ f d' k, f = f → L' (f, d', k) = L (f, d', k)) (hS : ∀ f d' k j, ¬ (f = 8 ∧ d' = d ∧ k = n) → S' f d' k j = S f d' k j) (hN : ∀ f d' k, f = f → N' f d' k = N f d' k) : isX E C' L' S' N' := by
  obtain ⟨hc9, hd9⟩ := h
  refine ⟨hc9.keep (fun f i z => hC f i 0 (by omega)) (fun f i z => hL f i 0 (by omega)) (fun f i j z => hS f i 0 j (by omega)) (hN 1 0 0 (by omega)), fun d9 hd0 => ?_⟩
  by_cases e9 : d9 = d
  · subst e9
    obtain ⟨h1, h2, h3, h4, h5, h6, h7, h8, h9⟩ := hd9 d9 hd0
    
    have c : ∀ f k, (¬ (f = 16 ∧ d9 = d9 ∧ k = n)) → C' (f, d9, k) = C (f, d9, k) := fun f k z => hC f d9 k z
    have lq : ∀ f k, (f = f) → L' (f, d9, k) = L (f, d9, k) := fun f k z => hL f d9 k z
    have q : ∀ f k j, (¬ (f = 8 ∧ d9 = d9 ∧ k = n)) → S' f d9 k j = S f d9 k j := fun f k j z => hS f d9 k j z
    have r : ∀ f k, (f = f) → N' f d9 k = N f d9 k := fun f k z => hN f d9 k z
    refine ⟨?_, ?_, ?_, ?_, ?_, ?_, ?_, ?_, ?_⟩
    ·
      rw [(c 5 0 (by omega)), h1]
      simp only [kDev, q 4 0 0 (by omega), q 6 0 0 (by omega), q 7 0 0 (by omega), r 4 0 (by omega), (lq 6 0 (by omega)), (lq 7 0 (by omega)), (lq 8 0 (by omega)), (lq 10 0 (by omega)), (lq 12 0 (by omega))]
    ·
      rw [(c 6 0 (by omega)), h2]
      have e : ∀ n, N' 11 d9 n = N 11 d9 n := fun n => r 11 n (by omega)
      have e2 : ∀ n, L' (16, d9, n) = L (16, d9, n) := fun n => lq 16 n (by omega)
      simp only [kCps, e, e2]
    ·
      rw [(c 7 0 (by omega)), h3]
      have e : ∀ n, S' 5 d9 n 0 = S 5 d9 n 0 := fun n => q 5 n 0 (by omega)
      simp only [e]
    ·
      rw [r 2 0 (by omega)]
      exact h4.keep (c 8 0 (by omega)) (c 9 0 (by omega)) (lq 9 0 (by omega)) (fun j _ => (lq 17 j (by omega)))
    ·
      rw [r 3 0 (by omega)]
      exact h5.keep (c 10 0 (by omega)) (c 11 0 (by omega)) (lq 11 0 (by omega)) (fun j _ => (lq 19 j (by omega)))
    ·
      rw [r 5 0 (by omega)]
      exact h6.keep (c 12 0 (by omega)) (c 13 0 (by omega)) (lq 13 0 (by omega)) (fun j _ => by rw [r 6 j (by omega)]; exact (lq 19 _ (by omega)))
    ·
      intro n9 hn
      by_cases e : n9 = n
      · subst e
        exact hv
      · rw [r 11 n9 (by omega)] at hn
        rw [(c 16 n9 (by omega)), h7 n9 hn]
        simp only [kF, q 8 n9 0 (by omega), q 8 n9 1 (by omega), q 8 n9 2 (by omega), q 8 n9 3 (by omega)]
    ·
      intro k9 hk
      rw [r 2 0 (by omega)] at hk
      rw [(c 17 k9 (by omega)), (c 18 k9 (by omega)), (h8 k9 hk).1, (h8 k9 hk).2, (lq 18 k9 (by omega)), q 9 k9 0 (by omega)]
      simp only [kF, q 10 k9 0 (by omega), q 10 k9 1 (by omega), q 10 k9 2 (by omega), q 10 k9 3 (by omega), and_self]
    ·
      intro k9 hk
      rw [r 3 0 (by omega)] at hk
      rw [(c 19 k9 (by omega)), h9 k9 hk]
      simp only [kAct, q 11 k9 0 (by omega), q 11 k9 1 (by omega), q 11 k9 2 (by omega), q 11 k9 3 (by omega), q 11 k9 4 (by omega)]
  · exact (hd9 d9 hd0).keep (fun f k _ _ _ _ => hC f d9 k (by omega)) (fun f k _ _ _ _ => hL f d9 k (by omega)) (fun f k j _ _ => hS f d9 k j (by omega)) (fun f k _ _ => hN f d9 k (by omega))

theorem isX.newc {E : kE} {C C' : kC} {L L' : kL} {S S' : kI4} {N N' : kN3} {d n : Nat} (hn0 : N' 11 d n ≠ 0) (hv6 : C' (6, d, 0) = some (kCps E L' N' d)) (hv : C' (16, d, n) = some (kF S' 8 d n)) (h : isX E C L S N) (hC : ∀ f d' k, ¬ ((f = 6 ∧ d' = d) ∨ (f = 16 ∧ d' = d ∧ k = n)) → C' (f, d', k) = C (f, d', k)) (hL : ∀ f d' k, ¬ (f = 16 ∧ d' = d ∧ k = n) → L' (f, d', k) = L (f, d', k)) (hS : ∀ f d' k j, ¬ (f = 8 ∧ d' = d ∧ k = n) → S' f d' k j = S f d' k j) (hN : ∀ f d' k, ¬ (f = 11 ∧ d' = d ∧ k = n) → N' f d' k = N f d' k) : isX E C' L' S' N' := by
  obtain ⟨hc9, hd9⟩ := h
  refine ⟨hc9.keep (fun f i z => hC f i 0 (by omega)) (fun f i z => hL f i 0 (by omega)) (fun f i j z => hS f i 0 j (by omega)) (hN 1 0 0 (by omega)), fun d9 hd0 => ?_⟩
  by_cases e9 : d9 = d
  · subst e9
    obtain ⟨h1, h2, h3, h4, h5, h6, h7, h8, h9⟩ := hd9 d9 hd0
    
    have c : ∀ f k, (¬ ((f = 6 ∧ d9 = d9) ∨ (f = 16 ∧ d9 = d9 ∧ k = n))) → C' (f, d9, k) = C (f, d9, k) := fun f k z => hC f d9 k z
    have lq : ∀ f k, (¬ (f = 16 ∧ d9 = d9 ∧ k = n)) → L' (f, d9, k) = L (f, d9, k) := fun f k z => hL f d9 k z
    have q : ∀ f k j, (¬ (f = 8 ∧ d9 = d9 ∧ k = n)) → S' f d9 k j = S f d9 k j := fun f k j z => hS f d9 k j z
    have r : ∀ f k, (¬ (f = 11 ∧ d9 = d9 ∧ k = n)) → N' f d9 k = N f d9 k := fun f k z => hN f d9 k z
    refine ⟨?_, ?_, ?_, ?_, ?_, ?_, ?_, ?_, ?_⟩
    ·
      rw [(c 5 0 (by omega)), h1]
      simp only [kDev, q 4 0 0 (by omega), q 6 0 0 (by omega), q 7 0 0 (by omega), r 4 0 (by omega), (lq 6 0 (by omega)), (lq 7 0 (by omega)), (lq 8 0 (by omega)), (lq 10 0 (by omega)), (lq 12 0 (by omega))]
    ·
      exact hv6
    ·
      rw [(c 7 0 (by omega)), h3]
      have e : ∀ n, S' 5 d9 n 0 = S 5 d9 n 0 := fun n => q 5 n 0 (by omega)
      simp only [e]
    ·
      rw [r 2 0 (by omega)]
      exact h4.keep (c 8 0 (by omega)) (c 9 0 (by omega)) (lq 9 0 (by omega)) (fun j _ => (lq 17 j (by omega)))
    ·
      rw [r 3 0 (by omega)]
      exact h5.keep (c 10 0 (by omega)) (c 11 0 (by omega)) (lq 11 0 (by omega)) (fun j _ => (lq 19 j (by omega)))
    ·
      rw [r 5 0 (by omega)]
      exact h6.keep (c 12 0 (by omega)) (c 13 0 (by omega)) (lq 13 0 (by omega)) (fun j _ => by rw [r 6 j (by omega)]; exact (lq 19 _ (by omega)))
    ·
      intro n9 hn
      by_cases e : n9 = n
      · subst e
        exact hv
      · rw [r 11 n9 (by omega)] at hn
        rw [(c 16 n9 (by omega)), h7 n9 hn]
        simp only [kF, q 8 n9 0 (by omega), q 8 n9 1 (by omega), q 8 n9 2 (by omega), q 8 n9 3 (by omega)]
    ·
      intro k9 hk
      rw [r 2 0 (by omega)] at hk
      rw [(c 17 k9 (by omega)), (c 18 k9 (by omega)), (h8 k9 hk).1, (h8 k9 hk).2, (lq 18 k9 (by omega)), q 9 k9 0 (by omega)]
      simp only [kF, q 10 k9 0 (by omega), q 10 k9 1 (by omega), q 10 k9 2 (by omega), q 10 k9 3 (by omega), and_self]
    ·
      intro k9 hk
      rw [r 3 0 (by omega)] at hk
      rw [(c 19 k9 (by omega)), h9 k9 hk]
      simp only [kAct, q 11 k9 0 (by omega), q 11 k9 1 (by omega), q 11 k9 2 (by omega), q 11 k9 3 (by omega), q 11 k9 4 (by omega)]
  · exact (hd9 d9 hd0).keep (fun f k _ _ _ _ => hC f d9 k (by omega)) (fun f k _ _ _ _ => hL f d9 k (by omega)) (fun f k j _ _ => hS f d9 k j (by omega)) (fun f k _ _ => hN f d9 k (by omega))

theorem isX.m17 {E : kE} {C C' : kC} {L L' : kL} {S S' : kI4} {N N' : kN3} {d n : Nat} (hv : C' (17, d, n) = some (.inr (5, [.int (S' 9 d n 0), .ref (L' (18, d, n))]))) (h : isX E C L S N) (hC : ∀ f d' k, ¬ (f = 17 ∧ d' = d ∧ k = n) → C' (f, d', k) = C (f, d', k)) (hL : ∀ f d' k, f = f → L' (f, d', k) = L (f, d', k)) (hS : ∀ f d' k j, ¬ (f = 9 ∧ d' = d ∧ k = n) → S' f d' k j = S f d' k j) (hN : ∀ f d' k, f = f → N' f d' k = N f d' k) : isX E C' L' S' N' := by
  obtain ⟨hc9, hd9⟩ := h
  refine ⟨hc9.keep (fun f i z => hC f i 0 (by omega)) (fun f i z => hL f i 0 (by omega)) (fun f i j z => hS f i 0 j (by omega)) (hN 1 0 0 (by omega)), fun d9 hd0 => ?_⟩
  by_cases e9 : d9 = d
  · subst e9
    obtain ⟨h1, h2, h3, h4, h5, h6, h7, h8, h9⟩ := hd9 d9 hd0
    
    have c : ∀ f k, (¬ (f = 17 ∧ d9 = d9 ∧ k = n)) → C' (f, d9, k) = C (f, d9, k) := fun f k z => hC f d9 k z
    have lq : ∀ f k, (f = f) → L' (f, d9, k) = L (f, d9, k) := fun f k z => hL f d9 k z
    have q : ∀ f k j, (¬ (f = 9 ∧ d9 = d9 ∧ k = n)) → S' f d9 k j = S f d9 k j := fun f k j z => hS f d9 k j z
    have r : ∀ f k, (f = f) → N' f d9 k = N f d9 k := fun f k z => hN f d9 k z
    refine ⟨?_, ?_, ?_, ?_, ?_, ?_, ?_, ?_, ?_⟩
    ·
      rw [(c 5 0 (by omega)), h1]
      simp only [kDev, q 4 0 0 (by omega), q 6 0 0 (by omega), q 7 0 0 (by omega), r 4 0 (by omega), (lq 6 0 (by omega)), (lq 7 0 (by omega)), (lq 8 0 (by omega)), (lq 10 0 (by omega)), (lq 12 0 (by omega))]
    ·
      rw [(c 6 0 (by omega)), h2]
      have e : ∀ n, N' 11 d9 n = N 11 d9 n := fun n => r 11 n (by omega)
      have e2 : ∀ n, L' (16, d9, n) = L (16, d9, n) := fun n => (lq 16 n (by omega))
      simp only [kCps, e, e2]
    ·
      rw [(c 7 0 (by omega)), h3]
      have e : ∀ n, S' 5 d9 n 0 = S 5 d9 n 0 := fun n => q 5 n 0 (by omega)
      simp only [e]
    ·
      rw [r 2 0 (by omega)]
      exact h4.keep (c 8 0 (by omega)) (c 9 0 (by omega)) (lq 9 0 (by omega)) (fun j _ => lq 17 j (by omega))
    ·
      rw [r 3 0 (by omega)]
      exact h5.keep (c 10 0 (by omega)) (c 11 0 (by omega)) (lq 11 0 (by omega)) (fun j _ => (lq 19 j (by omega)))
    ·
      rw [r 5 0 (by omega)]
      exact h6.keep (c 12 0 (by omega)) (c 13 0 (by omega)) (lq 13 0 (by omega)) (fun j _ => by rw [r 6 j (by omega)]; exact (lq 19 _ (by omega)))
    ·
      intro n9 hn
      rw [r 11 n9 (by omega)] at hn
      rw [(c 16 n9 (by omega)), h7 n9 hn]
      simp only [kF, q 8 n9 0 (by omega), q 8 n9 1 (by omega), q 8 n9 2 (by omega), q 8 n9 3 (by omega)]
    ·
      intro k9 hk
      rw [r 2 0 (by omega)] at hk
      by_cases e : k9 = n
      · subst e
        refine ⟨hv, ?_⟩
        rw [(c 18 k9 (by omega)), (h8 k9 hk).2]
        simp only [kF, q 10 k9 0 (by omega), q 10 k9 1 (by omega), q 10 k9 2 (by omega), q 10 k9 3 (by omega)]
      · rw [(c 17 k9 (by omega)), (c 18 k9 (by omega)), (h8 k9 hk).1, (h8 k9 hk).2, (lq 18 k9 (by omega)), q 9 k9 0 (by omega)]
        simp only [kF, q 10 k9 0 (by omega), q 10 k9 1 (by omega), q 10 k9 2 (by omega), q 10 k9 3 (by omega), and_self]
    ·
      intro k9 hk
      rw [r 3 0 (by omega)] at hk
      rw [(c 19 k9 (by omega)), h9 k9 hk]
      simp only [kAct, q 11 k9 0 (by omega), q 11 k9 1 (by omega), q 11 k9 2 (by omega), q 11 k9 3 (by omega), q 11 k9 4 (by omega)]
  · exact (hd9 d9 hd0).keep (fun f k _ _ _ _ => hC f d9 k (by omega)) (fun f k _ _ _ _ => hL f d9 k (by omega)) (fun f k j _ _ => hS f d9 k j (by omega)) (fun f k _ _ => hN f d9 k (by omega))

theorem isX.m18 {E : kE} {C C' : kC} {L L' : kL} {S S' : kI4} {N N' : kN3} {d n : Nat} (hv : C' (18, d, n) = some (kF S' 10 d n)) (h : isX E C L S N) (hC : ∀ f d' k, ¬ (f = 18 ∧ d' = d ∧ k = n) → C' (f, d', k) = C (f, d', k)) (hL : ∀ f d' k, f = f → L' (f, d', k) = L (f, d', k)) (hS : ∀ f d' k j, ¬ (f = 10 ∧ d' = d ∧ k = n) → S' f d' k j = S f d' k j) (hN : ∀ f d' k, f = f → N' f d' k = N f d' k) : isX E C' L' S' N' := by
  obtain ⟨hc9, hd9⟩ := h
  refine ⟨hc9.keep (fun f i z => hC f i 0 (by omega)) (fun f i z => hL f i 0 (by omega)) (fun f i j z => hS f i 0 j (by omega)) (hN 1 0 0 (by omega)), fun d9 hd0 => ?_⟩
  by_cases e9 : d9 = d
  · subst e9
    obtain ⟨h1, h2, h3, h4, h5, h6, h7, h8, h9⟩ := hd9 d9 hd0
    
    have c : ∀ f k, (¬ (f = 18 ∧ d9 = d9 ∧ k = n)) → C' (f, d9, k) = C (f, d9, k) := fun f k z => hC f d9 k z
    have lq : ∀ f k, (f = f) → L' (f, d9, k) = L (f, d9, k) := fun f k z => hL f d9 k z
    have q : ∀ f k j, (¬ (f = 10 ∧ d9 = d9 ∧ k = n)) → S' f d9 k j = S f d9 k j := fun f k j z => hS f d9 k j z
    have r : ∀ f k, (f = f) → N' f d9 k = N f d9 k := fun f k z => hN f d9 k z
    refine ⟨?_, ?_, ?_, ?_, ?_, ?_, ?_, ?_, ?_⟩
    ·
      rw [(c 5 0 (by omega)), h1]
      simp only [kDev, q 4 0 0 (by omega), q 6 0 0 (by omega), q 7 0 0 (by omega), r 4 0 (by omega), (lq 6 0 (by omega)), (lq 7 0 (by omega)), (lq 8 0 (by omega)), (lq 10 0 (by omega)), (lq 12 0 (by omega))]
    ·
      rw [(c 6 0 (by omega)), h2]
      have e : ∀ n, N' 11 d9 n = N 11 d9 n := fun n => r 11 n (by omega)
      have e2 : ∀ n, L' (16, d9, n) = L (16, d9, n) := fun n => (lq 16 n (by omega))
      simp only [kCps, e, e2]
    ·
      rw [(c 7 0 (by omega)), h3]
      have e : ∀ n, S' 5 d9 n 0 = S 5 d9 n 0 := fun n => q 5 n 0 (by omega)
      simp only [e]
    ·
      rw [r 2 0 (by omega)]
      exact h4.keep (c 8 0 (by omega)) (c 9 0 (by omega)) (lq 9 0 (by omega)) (fun j _ => (lq 17 j (by omega)))
    ·
      rw [r 3 0 (by omega)]
      exact h5.keep (c 10 0 (by omega)) (c 11 0 (by omega)) (lq 11 0 (by omega)) (fun j _ => (lq 19 j (by omega)))
    ·
      rw [r 5 0 (by omega)]
      exact h6.keep (c 12 0 (by omega)) (c 13 0 (by omega)) (lq 13 0 (by omega)) (fun j _ => by rw [r 6 j (by omega)]; exact (lq 19 _ (by omega)))
    ·
      intro n9 hn
      rw [r 11 n9 (by omega)] at hn
      rw [(c 16 n9 (by omega)), h7 n9 hn]
      simp only [kF, q 8 n9 0 (by omega), q 8 n9 1 (by omega), q 8 n9 2 (by omega), q 8 n9 3 (by omega)]
    ·
      intro k9 hk
      rw [r 2 0 (by omega)] at hk
      by_cases e : k9 = n
      · subst e
        refine ⟨?_, hv⟩
        rw [(c 17 k9 (by omega)), (h8 k9 hk).1, lq 18 k9 (by omega), q 9 k9 0 (by omega)]
      · rw [(c 17 k9 (by omega)), (c 18 k9 (by omega)), (h8 k9 hk).1, (h8 k9 hk).2, (lq 18 k9 (by omega)), q 9 k9 0 (by omega)]
        simp only [kF, q 10 k9 0 (by omega), q 10 k9 1 (by omega), q 10 k9 2 (by omega), q 10 k9 3 (by omega), and_self]
    ·
      intro k9 hk
      rw [r 3 0 (by omega)] at hk
      rw [(c 19 k9 (by omega)), h9 k9 hk]
      simp only [kAct, q 11 k9 0 (by omega), q 11 k9 1 (by omega), q 11 k9 2 (by omega), q 11 k9 3 (by omega), q 11 k9 4 (by omega)]
  · exact (hd9 d9 hd0).keep (fun f k _ _ _ _ => hC f d9 k (by omega)) (fun f k _ _ _ _ => hL f d9 k (by omega)) (fun f k j _ _ => hS f d9 k j (by omega)) (fun f k _ _ => hN f d9 k (by omega))

theorem isX.addM {E : kE} {C C' : kC} {L L' : kL} {S S' : kI4} {N N' : kN3} {d : Nat} (hl : kLs E C' L' 8 9 d (N 2 d 0 + 1) (fun k => L' (17, d, k))) (hN2 : N' 2 d 0 = N 2 d 0 + 1) (hm : C' (17, d, N 2 d 0) = some (.inr (5, [.int (S' 9 d (N 2 d 0) 0), .ref (L' (18, d, N 2 d 0))]))) (hv : C' (18, d, N 2 d 0) = some (kF S' 10 d (N 2 d 0))) (h : isX E C L S N) (hC : ∀ f d' k, ¬ (((f = 8 ∨ f = 9) ∧ d' = d) ∨ ((f = 17 ∨ f = 18) ∧ d' = d ∧ k = N 2 d 0)) → C' (f, d', k) = C (f, d', k)) (hL : ∀ f d' k, ¬ ((f = 9 ∧ d' = d) ∨ ((f = 17 ∨ f = 18) ∧ d' = d ∧ k = N 2 d 0)) → L' (f, d', k) = L (f, d', k)) (hS : ∀ f d' k j, ¬ ((f = 9 ∨ f = 10) ∧ d' = d ∧ k = N 2 d 0) → S' f d' k j = S f d' k j) (hN : ∀ f d' k, ¬ (f = 2 ∧ d' = d) → N' f d' k = N f d' k) : isX E C' L' S' N' := by
  obtain ⟨hc9, hd9⟩ := h
  refine ⟨hc9.keep (fun f i z => hC f i 0 (by omega)) (fun f i z => hL f i 0 (by omega)) (fun f i j z => hS f i 0 j (by omega)) (hN 1 0 0 (by omega)), fun d9 hd0 => ?_⟩
  by_cases e9 : d9 = d
  · subst e9
    obtain ⟨h1, h2, h3, h4, h5, h6, h7, h8, h9⟩ := hd9 d9 hd0
    
    have c : ∀ f k, (¬ (((f = 8 ∨ f = 9) ∧ d9 = d9) ∨ ((f = 17 ∨ f = 18) ∧ d9 = d9 ∧ k = N 2 d9 0))) → C' (f, d9, k) = C (f, d9, k) := fun f k z => hC f d9 k z
    have lq : ∀ f k, (¬ ((f = 9 ∧ d9 = d9) ∨ ((f = 17 ∨ f = 18) ∧ d9 = d9 ∧ k = N 2 d9 0))) → L' (f, d9, k) = L (f, d9, k) := fun f k z => hL f d9 k z
    have q : ∀ f k j, (¬ ((f = 9 ∨ f = 10) ∧ d9 = d9 ∧ k = N 2 d9 0)) → S' f d9 k j = S f d9 k j := fun f k j z => hS f d9 k j z
    have r : ∀ f k, (¬ (f = 2 ∧ d9 = d9)) → N' f d9 k = N f d9 k := fun f k z => hN f d9 k z
    refine ⟨?_, ?_, ?_, ?_, ?_, ?_, ?_, ?_, ?_⟩
    ·
      rw [(c 5 0 (by omega)), h1]
      simp only [kDev, q 4 0 0 (by omega), q 6 0 0 (by omega), q 7 0 0 (by omega), r 4 0 (by omega), (lq 6 0 (by omega)), (lq 7 0 (by omega)), (lq 8 0 (by omega)), (lq 10 0 (by omega)), (lq 12 0 (by omega))]
    ·
      rw [(c 6 0 (by omega)), h2]
      have e : ∀ n, N' 11 d9 n = N 11 d9 n := fun n => r 11 n (by omega)
      have e2 : ∀ n, L' (16, d9, n) = L (16, d9, n) := fun n => (lq 16 n (by omega))
      simp only [kCps, e, e2]
    ·
      rw [(c 7 0 (by omega)), h3]
      have e : ∀ n, S' 5 d9 n 0 = S 5 d9 n 0 := fun n => q 5 n 0 (by omega)
      simp only [e]
    ·
      rw [hN2]
      exact hl
    ·
      rw [r 3 0 (by omega)]
      exact h5.keep (c 10 0 (by omega)) (c 11 0 (by omega)) (lq 11 0 (by omega)) (fun j _ => (lq 19 j (by omega)))
    ·
      rw [r 5 0 (by omega)]
      exact h6.keep (c 12 0 (by omega)) (c 13 0 (by omega)) (lq 13 0 (by omega)) (fun j _ => by rw [r 6 j (by omega)]; exact (lq 19 _ (by omega)))
    ·
      intro n9 hn
      rw [r 11 n9 (by omega)] at hn
      rw [(c 16 n9 (by omega)), h7 n9 hn]
      simp only [kF, q 8 n9 0 (by omega), q 8 n9 1 (by omega), q 8 n9 2 (by omega), q 8 n9 3 (by omega)]
    ·
      intro k9 hk
      rw [hN2] at hk
      by_cases e : k9 = N 2 d9 0
      · subst e
        exact ⟨hm, hv⟩
      · have hk2 : k9 < N 2 d9 0 := by omega
        rw [(c 17 k9 (by omega)), (c 18 k9 (by omega)), (h8 k9 hk2).1, (h8 k9 hk2).2, (lq 18 k9 (by omega)), q 9 k9 0 (by omega)]
        simp only [kF, q 10 k9 0 (by omega), q 10 k9 1 (by omega), q 10 k9 2 (by omega), q 10 k9 3 (by omega), and_self]
    ·
      intro k9 hk
      rw [r 3 0 (by omega)] at hk
      rw [(c 19 k9 (by omega)), h9 k9 hk]
      simp only [kAct, q 11 k9 0 (by omega), q 11 k9 1 (by omega), q 11 k9 2 (by omega), q 11 k9 3 (by omega), q 11 k9 4 (by omega)]
  · exact (hd9 d9 hd0).keep (fun f k _ _ _ _ => hC f d9 k (by omega)) (fun f k _ _ _ _ => hL f d9 k (by omega)) (fun f k j _ _ => hS f d9 k j (by omega)) (fun f k _ _ => hN f d9 k (by omega))

theorem isX.addA {E : kE} {C C' : kC} {L L' : kL} {S S' : kI4} {N N' : kN3} {d : Nat} (hl : kLs E C' L' 10 11 d (N 3 d 0 + 1) (fun k => L' (19, d, k))) (hN2 : N' 3 d 0 = N 3 d 0 + 1) (hv : C' (19, d, N 3 d 0) = some (kAct S' d (N 3 d 0))) (hR9 : ∀ i, i < N 5 d 0 → N 6 d i < N 3 d 0) (h : isX E C L S N) (hC : ∀ f d' k, ¬ (((f = 10 ∨ f = 11) ∧ d' = d) ∨ (f = 19 ∧ d' = d ∧ k = N 3 d 0)) → C' (f, d', k) = C (f, d', k)) (hL : ∀ f d' k, ¬ ((f = 11 ∧ d' = d) ∨ (f = 19 ∧ d' = d ∧ k = N 3 d 0)) → L' (f, d', k) = L (f, d', k)) (hS : ∀ f d' k j, ¬ (f = 11 ∧ d' = d ∧ k = N 3 d 0) → S' f d' k j = S f d' k j) (hN : ∀ f d' k, ¬ (f = 3 ∧ d' = d) → N' f d' k = N f d' k) : isX E C' L' S' N' := by
  obtain ⟨hc9, hd9⟩ := h
  refine ⟨hc9.keep (fun f i z => hC f i 0 (by omega)) (fun f i z => hL f i 0 (by omega)) (fun f i j z => hS f i 0 j (by omega)) (hN 1 0 0 (by omega)), fun d9 hd0 => ?_⟩
  by_cases e9 : d9 = d
  · subst e9
    obtain ⟨h1, h2, h3, h4, h5, h6, h7, h8, h9⟩ := hd9 d9 hd0
    
    have c : ∀ f k, (¬ (((f = 10 ∨ f = 11) ∧ d9 = d9) ∨ (f = 19 ∧ d9 = d9 ∧ k = N 3 d9 0))) → C' (f, d9, k) = C (f, d9, k) := fun f k z => hC f d9 k z
    have lq : ∀ f k, (¬ ((f = 11 ∧ d9 = d9) ∨ (f = 19 ∧ d9 = d9 ∧ k = N 3 d9 0))) → L' (f, d9, k) = L (f, d9, k) := fun f k z => hL f d9 k z
    have q : ∀ f k j, (¬ (f = 11 ∧ d9 = d9 ∧ k = N 3 d9 0)) → S' f d9 k j = S f d9 k j := fun f k j z => hS f d9 k j z
    have r : ∀ f k, (¬ (f = 3 ∧ d9 = d9)) → N' f d9 k = N f d9 k := fun f k z => hN f d9 k z
    refine ⟨?_, ?_, ?_, ?_, ?_, ?_, ?_, ?_, ?_⟩
    ·
      rw [(c 5 0 (by omega)), h1]
      simp only [kDev, q 4 0 0 (by omega), q 6 0 0 (by omega), q 7 0 0 (by omega), r 4 0 (by omega), (lq 6 0 (by omega)), (lq 7 0 (by omega)), (lq 8 0 (by omega)), (lq 10 0 (by omega)), (lq 12 0 (by omega))]
    ·
      rw [(c 6 0 (by omega)), h2]
      have e : ∀ n, N' 11 d9 n = N 11 d9 n := fun n => r 11 n (by omega)
      have e2 : ∀ n, L' (16, d9, n) = L (16, d9, n) := fun n => (lq 16 n (by omega))
      simp only [kCps, e, e2]
    ·
      rw [(c 7 0 (by omega)), h3]
      have e : ∀ n, S' 5 d9 n 0 = S 5 d9 n 0 := fun n => q 5 n 0 (by omega)
      simp only [e]
    ·
      rw [r 2 0 (by omega)]
      exact h4.keep (c 8 0 (by omega)) (c 9 0 (by omega)) (lq 9 0 (by omega)) (fun j _ => (lq 17 j (by omega)))
    ·
      rw [hN2]
      exact hl
    ·
      rw [r 5 0 (by omega)]
      exact h6.keep (c 12 0 (by omega)) (c 13 0 (by omega)) (lq 13 0 (by omega)) (fun j hj => by have h9 := hR9 j hj; rw [r 6 j (by omega)]; exact (lq 19 _ (by omega)))
    ·
      intro n9 hn
      rw [r 11 n9 (by omega)] at hn
      rw [(c 16 n9 (by omega)), h7 n9 hn]
      simp only [kF, q 8 n9 0 (by omega), q 8 n9 1 (by omega), q 8 n9 2 (by omega), q 8 n9 3 (by omega)]
    ·
      intro k9 hk
      rw [r 2 0 (by omega)] at hk
      rw [(c 17 k9 (by omega)), (c 18 k9 (by omega)), (h8 k9 hk).1, (h8 k9 hk).2, (lq 18 k9 (by omega)), q 9 k9 0 (by omega)]
      simp only [kF, q 10 k9 0 (by omega), q 10 k9 1 (by omega), q 10 k9 2 (by omega), q 10 k9 3 (by omega), and_self]
    ·
      intro k9 hk
      rw [hN2] at hk
      by_cases e : k9 = N 3 d9 0
      · subst e
        exact hv
      · have hk2 : k9 < N 3 d9 0 := by omega
        rw [(c 19 k9 (by omega)), h9 k9 hk2]
        simp only [kAct, q 11 k9 0 (by omega), q 11 k9 1 (by omega), q 11 k9 2 (by omega), q 11 k9 3 (by omega), q 11 k9 4 (by omega)]
  · exact (hd9 d9 hd0).keep (fun f k _ _ _ _ => hC f d9 k (by omega)) (fun f k _ _ _ _ => hL f d9 k (by omega)) (fun f k j _ _ => hS f d9 k j (by omega)) (fun f k _ _ => hN f d9 k (by omega))

theorem isX.a19 {E : kE} {C C' : kC} {L L' : kL} {S S' : kI4} {N N' : kN3} {d n : Nat} (hv : C' (19, d, n) = some (kAct S' d n)) (h : isX E C L S N) (hC : ∀ f d' k, ¬ (f = 19 ∧ d' = d ∧ k = n) → C' (f, d', k) = C (f, d', k)) (hL : ∀ f d' k, f = f → L' (f, d', k) = L (f, d', k)) (hS : ∀ f d' k j, ¬ (f = 11 ∧ d' = d ∧ k = n) → S' f d' k j = S f d' k j) (hN : ∀ f d' k, f = f → N' f d' k = N f d' k) : isX E C' L' S' N' := by
  obtain ⟨hc9, hd9⟩ := h
  refine ⟨hc9.keep (fun f i z => hC f i 0 (by omega)) (fun f i z => hL f i 0 (by omega)) (fun f i j z => hS f i 0 j (by omega)) (hN 1 0 0 (by omega)), fun d9 hd0 => ?_⟩
  by_cases e9 : d9 = d
  · subst e9
    obtain ⟨h1, h2, h3, h4, h5, h6, h7, h8, h9⟩ := hd9 d9 hd0
    
    have c : ∀ f k, (¬ (f = 19 ∧ d9 = d9 ∧ k = n)) → C' (f, d9, k) = C (f, d9, k) := fun f k z => hC f d9 k z
    have lq : ∀ f k, (f = f) → L' (f, d9, k) = L (f, d9, k) := fun f k z => hL f d9 k z
    have q : ∀ f k j, (¬ (f = 11 ∧ d9 = d9 ∧ k = n)) → S' f d9 k j = S f d9 k j := fun f k j z => hS f d9 k j z
    have r : ∀ f k, (f = f) → N' f d9 k = N f d9 k := fun f k z => hN f d9 k z
    refine ⟨?_, ?_, ?_, ?_, ?_, ?_, ?_, ?_, ?_⟩
    ·
      rw [(c 5 0 (by omega)), h1]
      simp only [kDev, q 4 0 0 (by omega), q 6 0 0 (by omega), q 7 0 0 (by omega), r 4 0 (by omega), (lq 6 0 (by omega)), (lq 7 0 (by omega)), (lq 8 0 (by omega)), (lq 10 0 (by omega)), (lq 12 0 (by omega))]
    ·
      rw [(c 6 0 (by omega)), h2]
      have e : ∀ n, N' 11 d9 n = N 11 d9 n := fun n => r 11 n (by omega)
      have e2 : ∀ n, L' (16, d9, n) = L (16, d9, n) := fun n => (lq 16 n (by omega))
      simp only [kCps, e, e2]
    ·
      rw [(c 7 0 (by omega)), h3]
      have e : ∀ n, S' 5 d9 n 0 = S 5 d9 n 0 := fun n => q 5 n 0 (by omega)
      simp only [e]
    ·
      rw [r 2 0 (by omega)]
      exact h4.keep (c 8 0 (by omega)) (c 9 0 (by omega)) (lq 9 0 (by omega)) (fun j _ => (lq 17 j (by omega)))
    ·
      rw [r 3 0 (by omega)]
      exact h5.keep (c 10 0 (by omega)) (c 11 0 (by omega)) (lq 11 0 (by omega)) (fun j _ => lq 19 j (by omega))
    ·
      rw [r 5 0 (by omega)]
      exact h6.keep (c 12 0 (by omega)) (c 13 0 (by omega)) (lq 13 0 (by omega)) (fun j _ => by rw [r 6 j (by omega)]; exact lq 19 _ (by omega))
    ·
      intro n9 hn
      rw [r 11 n9 (by omega)] at hn
      rw [(c 16 n9 (by omega)), h7 n9 hn]
      simp only [kF, q 8 n9 0 (by omega), q 8 n9 1 (by omega), q 8 n9 2 (by omega), q 8 n9 3 (by omega)]
    ·
      intro k9 hk
      rw [r 2 0 (by omega)] at hk
      rw [(c 17 k9 (by omega)), (c 18 k9 (by omega)), (h8 k9 hk).1, (h8 k9 hk).2, (lq 18 k9 (by omega)), q 9 k9 0 (by omega)]
      simp only [kF, q 10 k9 0 (by omega), q 10 k9 1 (by omega), q 10 k9 2 (by omega), q 10 k9 3 (by omega), and_self]
    ·
      intro k9 hk
      rw [r 3 0 (by omega)] at hk
      by_cases e : k9 = n
      · subst e
        exact hv
      · rw [(c 19 k9 (by omega)), h9 k9 hk]
        simp only [kAct, q 11 k9 0 (by omega), q 11 k9 1 (by omega), q 11 k9 2 (by omega), q 11 k9 3 (by omega), q 11 k9 4 (by omega)]
  · exact (hd9 d9 hd0).keep (fun f k _ _ _ _ => hC f d9 k (by omega)) (fun f k _ _ _ _ => hL f d9 k (by omega)) (fun f k j _ _ => hS f d9 k j (by omega)) (fun f k _ _ => hN f d9 k (by omega))

theorem isX.addR {E : kE} {C C' : kC} {L L' : kL} {S S' : kI4} {N N' : kN3} {d : Nat} (hl : kLs E C' L' 12 13 d (N 5 d 0 + 1) (fun i => L' (19, d, N' 6 d i))) (hN2 : N' 5 d 0 = N 5 d 0 + 1) (h : isX E C L S N) (hC : ∀ f d' k, ¬ ((f = 12 ∨ f = 13) ∧ d' = d) → C' (f, d', k) = C (f, d', k)) (hL : ∀ f d' k, ¬ (f = 13 ∧ d' = d) → L' (f, d', k) = L (f, d', k)) (hS : ∀ f d' k j, f = f → S' f d' k j = S f d' k j) (hN : ∀ f d' k, ¬ (((f = 5) ∧ d' = d) ∨ (f = 6 ∧ d' = d ∧ k = N 5 d 0)) → N' f d' k = N f d' k) : isX E C' L' S' N' := by
  obtain ⟨hc9, hd9⟩ := h
  refine ⟨hc9.keep (fun f i z => hC f i 0 (by omega)) (fun f i z => hL f i 0 (by omega)) (fun f i j z => hS f i 0 j (by omega)) (hN 1 0 0 (by omega)), fun d9 hd0 => ?_⟩
  by_cases e9 : d9 = d
  · subst e9
    obtain ⟨h1, h2, h3, h4, h5, h6, h7, h8, h9⟩ := hd9 d9 hd0
    
    have c : ∀ f k, (¬ ((f = 12 ∨ f = 13) ∧ d9 = d9)) → C' (f, d9, k) = C (f, d9, k) := fun f k z => hC f d9 k z
    have lq : ∀ f k, (¬ (f = 13 ∧ d9 = d9)) → L' (f, d9, k) = L (f, d9, k) := fun f k z => hL f d9 k z
    have q : ∀ f k j, (f = f) → S' f d9 k j = S f d9 k j := fun f k j z => hS f d9 k j z
    have r : ∀ f k, (¬ (((f = 5) ∧ d9 = d9) ∨ (f = 6 ∧ d9 = d9 ∧ k = N 5 d9 0))) → N' f d9 k = N f d9 k := fun f k z => hN f d9 k z
    refine ⟨?_, ?_, ?_, ?_, ?_, ?_, ?_, ?_, ?_⟩
    ·
      rw [(c 5 0 (by omega)), h1]
      simp only [kDev, q 4 0 0 (by omega), q 6 0 0 (by omega), q 7 0 0 (by omega), r 4 0 (by omega), (lq 6 0 (by omega)), (lq 7 0 (by omega)), (lq 8 0 (by omega)), (lq 10 0 (by omega)), (lq 12 0 (by omega))]
    ·
      rw [(c 6 0 (by omega)), h2]
      have e : ∀ n, N' 11 d9 n = N 11 d9 n := fun n => r 11 n (by omega)
      have e2 : ∀ n, L' (16, d9, n) = L (16, d9, n) := fun n => (lq 16 n (by omega))
      simp only [kCps, e, e2]
    ·
      rw [(c 7 0 (by omega)), h3]
      have e : ∀ n, S' 5 d9 n 0 = S 5 d9 n 0 := fun n => q 5 n 0 (by omega)
      simp only [e]
    ·
      rw [r 2 0 (by omega)]
      exact h4.keep (c 8 0 (by omega)) (c 9 0 (by omega)) (lq 9 0 (by omega)) (fun j _ => (lq 17 j (by omega)))
    ·
      rw [r 3 0 (by omega)]
      exact h5.keep (c 10 0 (by omega)) (c 11 0 (by omega)) (lq 11 0 (by omega)) (fun j _ => (lq 19 j (by omega)))
    ·
      rw [hN2]
      exact hl
    ·
      intro n9 hn
      rw [r 11 n9 (by omega)] at hn
      rw [(c 16 n9 (by omega)), h7 n9 hn]
      simp only [kF, q 8 n9 0 (by omega), q 8 n9 1 (by omega), q 8 n9 2 (by omega), q 8 n9 3 (by omega)]
    ·
      intro k9 hk
      rw [r 2 0 (by omega)] at hk
      rw [(c 17 k9 (by omega)), (c 18 k9 (by omega)), (h8 k9 hk).1, (h8 k9 hk).2, (lq 18 k9 (by omega)), q 9 k9 0 (by omega)]
      simp only [kF, q 10 k9 0 (by omega), q 10 k9 1 (by omega), q 10 k9 2 (by omega), q 10 k9 3 (by omega), and_self]
    ·
      intro k9 hk
      rw [r 3 0 (by omega)] at hk
      rw [(c 19 k9 (by omega)), h9 k9 hk]
      simp only [kAct, q 11 k9 0 (by omega), q 11 k9 1 (by omega), q 11 k9 2 (by omega), q 11 k9 3 (by omega), q 11 k9 4 (by omega)]
  · exact (hd9 d9 hd0).keep (fun f k _ _ _ _ => hC f d9 k (by omega)) (fun f k _ _ _ _ => hL f d9 k (by omega)) (fun f k j _ _ => hS f d9 k j (by omega)) (fun f k _ _ => hN f d9 k (by omega))
end
section
theorem kmade {x : Int32} {n : Nat} (h1 : ¬ x < nI 1000) (h2 : x - nI 1000 < nI n) (hn : n ≤ 512) : ∃ k : Nat, k < n ∧ x = nI (1000 + k) ∧ x - nI 1000 = nI k := by
  have h0 : ¬ x < 0 := fun z => h1 (Int32.lt_trans z (by decide))
  obtain ⟨j, hj, rfl⟩ := nI_of h0
  have h3 : 1000 ≤ j := Nat.le_of_not_lt fun z => h1 (nI_lt z (by decide))
  rw [pk_sub h3] at h2 ⊢
  have h4 : j - 1000 < n := (nI_ltI (by omega) (by omega)).mp h2
  exact ⟨j - 1000, h4, by rw [show 1000 + (j - 1000) = j by omega], rfl⟩
theorem knomade1 {x : Int32} {n : Nat} (h1 : x < nI 1000) (hn : n ≤ 512) : ∀ k : Nat, k < n → x ≠ nI (1000 + k) := by
  intro k hk e
  rw [e] at h1
  exact nI_nlt (by omega) (by omega) h1
theorem knomade2 {x : Int32} {n : Nat} (h1 : ¬ x - nI 1000 < nI n) (hn : n ≤ 512) : ∀ k : Nat, k < n → x ≠ nI (1000 + k) := by
  intro k hk e
  rw [e, pk_sub (by omega), show 1000 + k - 1000 = k by omega] at h1
  exact h1 (nI_lt hk (by omega))
/-- x is the own number of the device's k-th made job, or of none -/
def kOwn (N : kN3) (d : Nat) (x : Int32) (o : Option Nat) : Prop := (∃ k, k < N 2 d 0 ∧ x = nI (1000 + k) ∧ o = some k) ∨ ((∀ k, k < N 2 d 0 → x ≠ nI (1000 + k)) ∧ o = none)
/-- the number of the central store for x -/
def kCn (S : kI4) (N : kN3) (d : Nat) (x r : Int32) : Prop := (∃ k, k < N 2 d 0 ∧ x = nI (1000 + k) ∧ r = S 9 d k 0) ∨ ((∀ k, k < N 2 d 0 → x ≠ nI (1000 + k)) ∧ r = x)

set_option maxHeartbeats 4000000 in
set_option maxRecDepth 100000 in
theorem c_madeJob {l : Launch} (htr : l.stackTraces = false) {E : kE} {A : Nat → Prop} {C : kC} {L : kL} {S : kI4} {N : kN3} (hX : isX E C L S N) (hO : okX S N) {d : Nat} (hd : d < 4) (job : Int32) : kM l yX1_madeJob cX1_madeJob 2 (some (.object "FieldStore$Made")) 3 64 0 0 E A C L [.ref (L (5, d, 0)), .int job] (fun v C' L' => ((∃ k, k < N 2 d 0 ∧ job = nI (1000 + k) ∧ v = some (.ref (L (17, d, k)))) ∨ ((∀ k, k < N 2 d 0 → job ≠ nI (1000 + k)) ∧ v = some .null)) ∧ L = L' ∧ C = C') := by
  obtain ⟨vl8, hl8⟩ := (hX.2 d hd).2.2.2.1.hd
  obtain ⟨vl10, hl10⟩ := (hX.2 d hd).2.2.2.2.1.hd
  obtain ⟨vl12, hl12⟩ := (hX.2 d hd).2.2.2.2.2.1.hd
  have hb2 := (hO.2 d hd).1
  have hb3 := (hO.2 d hd).2.1
  have hb4 := (hO.2 d hd).2.2.1
  have hb5 := (hO.2 d hd).2.2.2.1
  refine kM.of htr (by decide) (Nat.le_of_ble_eq_true rfl) (fun Γ hl hR hN hnm X hE => ?_)
  refine k_lo (lo' := [(0, .ref (L (5, d, 0))), (1, .int job)]) ⟨rfl, rfl, trivial⟩ ?_
  refine k_iload_n X dX1_madeJob_0 rfl rfl ?_
  refine k_sipush (v := (nI 1000)) X dX1_madeJob_1 (by decide) ?_
  refine k_icmp_lt (tgt := 22) X dX1_madeJob_4 (by decide) (fun c4 => ?_) (fun c4 => ?_)
  ·
    refine k_null X dX1_madeJob_22 ?_
    exact k_aret X hE (Or.inl ⟨_, rfl⟩) (Or.inl rfl) dX1_madeJob_23 (by omega) (by omega) ⟨Or.inr ⟨by first | exact knomade1 c4 hb2 | exact knomade2 c19 hb2, rfl⟩, rfl, rfl⟩
  ·
    refine k_iload_n X dX1_madeJob_7 rfl rfl ?_
    refine k_sipush (v := (nI 1000)) X dX1_madeJob_8 (by decide) ?_
    refine k_isub X dX1_madeJob_11 ?_
    refine k_aload_n X dX1_madeJob_12 rfl rfl ?_
    refine k_get0 X (hX.2 d hd).1 (q := (RX1, TX1, 9)) rfl inlX1 4 (by decide) kb_44 (Or.inl rfl) rfl rfl dX1_madeJob_13 ?_
    refine k_callV (rest := [.int (job - (nI 1000))]) X kv_Jx4a65c_size_8abf5 kb_275 (c_Ls_size X.tr (hX.2 d hd).2.2.2.1) hl8 rfl rfl rfl rfl rfl (Nat.le_of_ble_eq_true rfl) ⟨by rw [hR]; exact Nat.le_of_ble_eq_true rfl, by rw [hR]; exact Nat.le_of_ble_eq_true rfl⟩ ⟨by rw [hR]; exact Nat.le_of_ble_eq_true rfl, by rw [hR]; exact Nat.le_of_ble_eq_true rfl⟩ dX1_madeJob_16 (fun v16 C9 L9 h9 => ?_)
    obtain ⟨rfl, rfl, rfl⟩ := h9
    refine k_icmp_lt (tgt := 24) X dX1_madeJob_19 (by decide) (fun c19 => ?_) (fun c19 => ?_)
    ·
      refine k_aload_n X dX1_madeJob_24 rfl rfl ?_
      refine k_get0 X (hX.2 d hd).1 (q := (RX1, TX1, 9)) rfl inlX1 4 (by decide) kb_44 (Or.inl rfl) rfl rfl dX1_madeJob_25 ?_
      refine k_iload_n X dX1_madeJob_28 rfl rfl ?_
      refine k_sipush (v := (nI 1000)) X dX1_madeJob_29 (by decide) ?_
      refine k_isub X dX1_madeJob_32 ?_
      obtain ⟨k, hk, hjob, hsub⟩ := kmade c4 c19 hb2
      refine k_rw hsub ?_
      refine k_callV (rest := []) X kv_Jx4a65c_get_915e3 kb_276 (c_Ls_get X.tr (hX.2 d hd).2.2.2.1 k hk (by omega)) hl8 rfl rfl rfl rfl rfl (Nat.le_of_ble_eq_true rfl) ⟨by rw [hR]; exact Nat.le_of_ble_eq_true rfl, by rw [hR]; exact Nat.le_of_ble_eq_true rfl⟩ ⟨by rw [hR]; exact Nat.le_of_ble_eq_true rfl, by rw [hR]; exact Nat.le_of_ble_eq_true rfl⟩ dX1_madeJob_33 (fun v33 C9 L9 h9 => ?_)
      obtain ⟨rfl, rfl, rfl⟩ := h9
      refine k_cast X ((hX.2 d hd).2.2.2.2.2.2.2.1 k hk).1 (r := (RX4, TX4, 2)) rfl rfl kb_315 dX1_madeJob_36 ?_
      exact k_aret X hE (Or.inl ⟨_, rfl⟩) (Or.inr ⟨_, rfl⟩) dX1_madeJob_39 (by omega) (by omega) ⟨Or.inl ⟨k, hk, hjob, rfl⟩, rfl, rfl⟩
    ·
      refine k_null X dX1_madeJob_22 ?_
      exact k_aret X hE (Or.inl ⟨_, rfl⟩) (Or.inl rfl) dX1_madeJob_23 (by omega) (by omega) ⟨Or.inr ⟨by first | exact knomade1 c4 hb2 | exact knomade2 c19 hb2, rfl⟩, rfl, rfl⟩

set_option maxHeartbeats 4000000 in
set_option maxRecDepth 100000 in
theorem c_centralNumber {l : Launch} (htr : l.stackTraces = false) {E : kE} {A : Nat → Prop} {C : kC} {L : kL} {S : kI4} {N : kN3} (hX : isX E C L S N) (hO : okX S N) {d : Nat} (hd : d < 4) (job : Int32) : kM l yX1_centralNumber cX1_centralNumber 3 (some .int) 4 85 0 0 E A C L [.ref (L (5, d, 0)), .int job] (fun v C' L' => (∃ r, v = some (.int r) ∧ kCn S N d job r) ∧ L = L' ∧ C = C') := by
  obtain ⟨vl8, hl8⟩ := (hX.2 d hd).2.2.2.1.hd
  obtain ⟨vl10, hl10⟩ := (hX.2 d hd).2.2.2.2.1.hd
  obtain ⟨vl12, hl12⟩ := (hX.2 d hd).2.2.2.2.2.1.hd
  have hb2 := (hO.2 d hd).1
  have hb3 := (hO.2 d hd).2.1
  have hb4 := (hO.2 d hd).2.2.1
  have hb5 := (hO.2 d hd).2.2.2.1
  refine kM.of htr (by decide) (Nat.le_of_ble_eq_true rfl) (fun Γ hl hR hN hnm X hE => ?_)
  refine k_lo (lo' := [(0, .ref (L (5, d, 0))), (1, .int job)]) ⟨rfl, rfl, trivial⟩ ?_
  refine k_aload_n X dX1_centralNumber_0 rfl rfl ?_
  refine k_iload_n X dX1_centralNumber_1 rfl rfl ?_
  refine k_callV (rest := []) X kv_X1_madeJob kb_270 (c_madeJob X.tr hX hO hd job) (hX.2 d hd).1 rfl rfl rfl rfl rfl (Nat.le_of_ble_eq_true rfl) ⟨by rw [hR]; exact Nat.le_of_ble_eq_true rfl, by rw [hR]; exact Nat.le_of_ble_eq_true rfl⟩ ⟨by rw [hR]; exact Nat.le_of_ble_eq_true rfl, by rw [hR]; exact Nat.le_of_ble_eq_true rfl⟩ dX1_centralNumber_2 (fun v2 C9 L9 h9 => ?_)
  obtain ⟨(⟨k, hk, hjob, rfl⟩ | ⟨hno, rfl⟩), rfl, rfl⟩ := h9
  ·
    refine k_astore_n X dX1_centralNumber_5 rfl (by rw [hN]; decide) ?_
    refine k_aload_n X dX1_centralNumber_6 rfl rfl ?_
    refine k_ifnonnull (tgt := 14) X dX1_centralNumber_7 (by decide) ?_
    refine k_aload_n X dX1_centralNumber_14 rfl rfl ?_
    refine k_get0 X ((hX.2 d hd).2.2.2.2.2.2.2.1 k hk).1 (q := (RX4, TX4, 2)) rfl inlX4 0 (by decide) kb_268 (Or.inl rfl) rfl rfl dX1_centralNumber_15 ?_
    exact k_iret X hE dX1_centralNumber_18 (by omega) (by omega) ⟨⟨_, rfl, Or.inl ⟨k, hk, hjob, rfl⟩⟩, rfl, rfl⟩
  ·
    refine k_astore_nN X dX1_centralNumber_5 rfl (by rw [hN]; decide) ?_
    refine k_aload_nN X dX1_centralNumber_6 rfl rfl ?_
    refine k_ifnonnullN X dX1_centralNumber_7 ?_
    refine k_iload_n X dX1_centralNumber_10 rfl rfl ?_
    refine k_goto (tgt := 18) X dX1_centralNumber_11 (by decide) ?_
    exact k_iret X hE dX1_centralNumber_18 (by omega) (by omega) ⟨⟨_, rfl, Or.inr ⟨hno, rfl⟩⟩, rfl, rfl⟩

/-- where a device holds the fields of job x, if it does -/
def kHf (S : kI4) (N : kN3) (d : Nat) (x : Int32) (o : Option kT) : Prop :=
  (∃ k, k < N 2 d 0 ∧ x = nI (1000 + k) ∧ S 9 d k 0 = -1 ∧ o = some (18, d, k)) ∨
  ((∀ k, k < N 2 d 0 → x = nI (1000 + k) → S 9 d k 0 ≠ -1) ∧ ∃ r, kCn S N d x r ∧ ((∃ n, n < 40 ∧ r = nI n ∧ S 5 d n 0 ≠ 0 ∧ ((N 11 d n ≠ 0 ∧ o = some (16, d, n)) ∨ (N 11 d n = 0 ∧ o = none))) ∨ ((∀ n, n < 40 → r = nI n → S 5 d n 0 = 0) ∧ o = none)))
def kRo (L : kL) (o : Option kT) : Value := match o with
  | none => .null
  | some t => .ref (L t)
theorem kown_inj {j k : Nat} (h : nI (1000 + j) = nI (1000 + k)) (hj : j < 512) (hk : k < 512) : j = k := by
  have := (nI_eq (by omega) (by omega)).mp h
  omega
theorem nI_inj {j k : Nat} (h : nI j = nI k) (hj : j < 2 ^ 31) (hk : k < 2 ^ 31) : j = k := (nI_eq hj hk).mp h

set_option maxHeartbeats 4000000 in
set_option maxRecDepth 100000 in
theorem c_heldFields {l : Launch} (htr : l.stackTraces = false) {E : kE} {A : Nat → Prop} {C : kC} {L : kL} {S : kI4} {N : kN3} (hX : isX E C L S N) (hO : okX S N) {d : Nat} (hd : d < 4) (job : Int32) : kM l yX1_heldFields cX1_heldFields 4 (some (.object "FieldStore$Fields")) 4 85 0 0 E A C L [.ref (L (5, d, 0)), .int job] (fun v C' L' => (∃ o, v = some (kRo L o) ∧ kHf S N d job o) ∧ L = L' ∧ C = C') := by
  obtain ⟨vl8, hl8⟩ := (hX.2 d hd).2.2.2.1.hd
  obtain ⟨vl10, hl10⟩ := (hX.2 d hd).2.2.2.2.1.hd
  obtain ⟨vl12, hl12⟩ := (hX.2 d hd).2.2.2.2.2.1.hd
  have hb2 := (hO.2 d hd).1
  have hb3 := (hO.2 d hd).2.1
  have hb4 := (hO.2 d hd).2.2.1
  have hb5 := (hO.2 d hd).2.2.2.1
  refine kM.of htr (by decide) (Nat.le_of_ble_eq_true rfl) (fun Γ hl hR hN hnm X hE => ?_)
  refine k_lo (lo' := [(0, .ref (L (5, d, 0))), (1, .int job)]) ⟨rfl, rfl, trivial⟩ ?_
  refine k_aload_n X dX1_heldFields_0 rfl rfl ?_
  refine k_iload_n X dX1_heldFields_1 rfl rfl ?_
  refine k_callV (rest := []) X kv_X1_madeJob kb_270 (c_madeJob X.tr hX hO hd job) (hX.2 d hd).1 rfl rfl rfl rfl rfl (Nat.le_of_ble_eq_true rfl) ⟨by rw [hR]; exact Nat.le_of_ble_eq_true rfl, by rw [hR]; exact Nat.le_of_ble_eq_true rfl⟩ ⟨by rw [hR]; exact Nat.le_of_ble_eq_true rfl, by rw [hR]; exact Nat.le_of_ble_eq_true rfl⟩ dX1_heldFields_2 (fun v2 C9 L9 h9 => ?_)
  obtain ⟨(⟨k, hk, hjob, rfl⟩ | ⟨hno, rfl⟩), rfl, rfl⟩ := h9
  ·
    refine k_astore_n X dX1_heldFields_5 rfl (by rw [hN]; decide) ?_
    refine k_aload_n X dX1_heldFields_6 rfl rfl ?_
    refine k_ifnull X dX1_heldFields_7 ?_
    refine k_aload_n X dX1_heldFields_10 rfl rfl ?_
    refine k_get0 X ((hX.2 d hd).2.2.2.2.2.2.2.1 k hk).1 (q := (RX4, TX4, 2)) rfl inlX4 0 (by decide) kb_268 (Or.inl rfl) rfl rfl dX1_heldFields_11 ?_
    refine k_iconst (v := (-1)) X dX1_heldFields_14 (by decide) ?_
    refine k_icmp_ne (tgt := 23) X dX1_heldFields_15 (by decide) (fun c15 => ?_) (fun c15 => ?_)
    ·
      refine k_aload_n X dX1_heldFields_23 rfl rfl ?_
      refine k_ifnonnull (tgt := 31) X dX1_heldFields_24 (by decide) ?_
      refine k_aload_n X dX1_heldFields_31 rfl rfl ?_
      refine k_get0 X ((hX.2 d hd).2.2.2.2.2.2.2.1 k hk).1 (q := (RX4, TX4, 2)) rfl inlX4 0 (by decide) kb_268 (Or.inl rfl) rfl rfl dX1_heldFields_32 ?_
      refine k_istore_n X dX1_heldFields_35 rfl (by rw [hN]; decide) ?_
      refine k_iload_n X dX1_heldFields_36 rfl rfl ?_
      refine k_if_lt (tgt := 55) X dX1_heldFields_37 (by decide) (fun c37 => ?_) (fun c37 => ?_)
      ·
        refine k_null X dX1_heldFields_55 ?_
        exact k_aret X hE (Or.inl ⟨_, rfl⟩) (Or.inl rfl) dX1_heldFields_56 (by omega) (by omega) ⟨⟨none, rfl, Or.inr ⟨(fun k2 hk2 e2 => by have e3 := kown_inj (e2.symm.trans hjob) (by omega) (by omega); subst e3; exact c15), _, Or.inl ⟨k, hk, hjob, rfl⟩, Or.inr ⟨by first | exact fun n2 hn2 e2 => absurd (show nI n2 < 0 from e2 ▸ c37) (nI_pos (by omega)) | exact fun n2 hn2 e2 => absurd (show nI 40 ≤ nI n2 from e2 ▸ c43) (nI_ge hn2 (by decide)) | exact fun n2 hn2 e2 => by rw [nI_inj (e2.symm.trans hrn) (by omega) (by omega)]; exact c52, rfl⟩⟩⟩, rfl, rfl⟩
      ·
        refine k_iload_n X dX1_heldFields_40 rfl rfl ?_
        refine k_bipush (v := (nI 40)) X dX1_heldFields_41 (by decide) ?_
        refine k_icmp_ge (tgt := 55) X dX1_heldFields_43 (by decide) (fun c43 => ?_) (fun c43 => ?_)
        ·
          refine k_null X dX1_heldFields_55 ?_
          exact k_aret X hE (Or.inl ⟨_, rfl⟩) (Or.inl rfl) dX1_heldFields_56 (by omega) (by omega) ⟨⟨none, rfl, Or.inr ⟨(fun k2 hk2 e2 => by have e3 := kown_inj (e2.symm.trans hjob) (by omega) (by omega); subst e3; exact c15), _, Or.inl ⟨k, hk, hjob, rfl⟩, Or.inr ⟨by first | exact fun n2 hn2 e2 => absurd (show nI n2 < 0 from e2 ▸ c37) (nI_pos (by omega)) | exact fun n2 hn2 e2 => absurd (show nI 40 ≤ nI n2 from e2 ▸ c43) (nI_ge hn2 (by decide)) | exact fun n2 hn2 e2 => by rw [nI_inj (e2.symm.trans hrn) (by omega) (by omega)]; exact c52, rfl⟩⟩⟩, rfl, rfl⟩
        ·
          refine k_aload_n X dX1_heldFields_46 rfl rfl ?_
          refine k_get0 X (hX.2 d hd).1 (q := (RX1, TX1, 9)) rfl inlX1 2 (by decide) kb_41 (Or.inl rfl) rfl rfl dX1_heldFields_47 ?_
          refine k_iload_n X dX1_heldFields_50 rfl rfl ?_
          obtain ⟨n, hn, hrn⟩ : ∃ n : Nat, n < 40 ∧ (S 9 d k 0) = nI n := by
            rcases pk_ix ((S 9 d k 0)) (n := 40) (by decide) with z | z | ⟨j, h1, h2⟩
            · exact absurd z c37
            · exact absurd z c43
            · exact ⟨j, h1, h2⟩
          refine k_zald X (hX.2 d hd).2.2.1 rfl (by rw [hrn]; exact vp_in_nI hn (by decide)) dX1_heldFields_51 ?_
          refine k_rw (y := S 5 d n 0) (by rw [hrn, nI_clamp (by omega)]) ?_
          refine k_if_ne (tgt := 57) X dX1_heldFields_52 (by decide) (fun c52 => ?_) (fun c52 => ?_)
          ·
            refine k_aload_n X dX1_heldFields_57 rfl rfl ?_
            refine k_get0 X (hX.2 d hd).1 (q := (RX1, TX1, 9)) rfl inlX1 1 (by decide) kb_39 (Or.inl rfl) rfl rfl dX1_heldFields_58 ?_
            refine k_iload_n X dX1_heldFields_61 rfl rfl ?_
            by_cases h11 : N 11 d n = 0
            ·
              refine k_aald X (hX.2 d hd).2.1 (nm := RX2) rfl rfl (by rw [hrn]; exact vp_in_nI hn (by decide)) dX1_heldFields_62 (v := .null) (by rw [hrn, nI_clamp (by omega)]; simp only [if_pos h11, va_rf]) ?_
              exact k_aret X hE (Or.inl ⟨_, rfl⟩) (Or.inl rfl) dX1_heldFields_63 (by omega) (by omega) ⟨⟨none, rfl, Or.inr ⟨(fun k2 hk2 e2 => by have e3 := kown_inj (e2.symm.trans hjob) (by omega) (by omega); subst e3; exact c15), _, Or.inl ⟨k, hk, hjob, rfl⟩, Or.inl ⟨n, hn, hrn, c52, Or.inr ⟨h11, rfl⟩⟩⟩⟩, rfl, rfl⟩
            ·
              refine k_aald X (hX.2 d hd).2.1 (nm := RX2) rfl rfl (by rw [hrn]; exact vp_in_nI hn (by decide)) dX1_heldFields_62 (v := .ref (L (16, d, n))) (by rw [hrn, nI_clamp (by omega)]; simp only [if_neg h11, va_rf]) ?_
              exact k_aret X hE (Or.inl ⟨_, rfl⟩) (Or.inr ⟨_, rfl⟩) dX1_heldFields_63 (by omega) (by omega) ⟨⟨some (16, d, n), rfl, Or.inr ⟨(fun k2 hk2 e2 => by have e3 := kown_inj (e2.symm.trans hjob) (by omega) (by omega); subst e3; exact c15), _, Or.inl ⟨k, hk, hjob, rfl⟩, Or.inl ⟨n, hn, hrn, c52, Or.inl ⟨h11, rfl⟩⟩⟩⟩, rfl, rfl⟩
          ·
            refine k_null X dX1_heldFields_55 ?_
            exact k_aret X hE (Or.inl ⟨_, rfl⟩) (Or.inl rfl) dX1_heldFields_56 (by omega) (by omega) ⟨⟨none, rfl, Or.inr ⟨(fun k2 hk2 e2 => by have e3 := kown_inj (e2.symm.trans hjob) (by omega) (by omega); subst e3; exact c15), _, Or.inl ⟨k, hk, hjob, rfl⟩, Or.inr ⟨by first | exact fun n2 hn2 e2 => absurd (show nI n2 < 0 from e2 ▸ c37) (nI_pos (by omega)) | exact fun n2 hn2 e2 => absurd (show nI 40 ≤ nI n2 from e2 ▸ c43) (nI_ge hn2 (by decide)) | exact fun n2 hn2 e2 => by rw [nI_inj (e2.symm.trans hrn) (by omega) (by omega)]; exact c52, rfl⟩⟩⟩, rfl, rfl⟩
    ·
      refine k_aload_n X dX1_heldFields_18 rfl rfl ?_
      refine k_get0 X ((hX.2 d hd).2.2.2.2.2.2.2.1 k hk).1 (q := (RX4, TX4, 2)) rfl inlX4 1 (by decide) kb_269 (Or.inl rfl) rfl rfl dX1_heldFields_19 ?_
      exact k_aret X hE (Or.inl ⟨_, rfl⟩) (Or.inr ⟨_, rfl⟩) dX1_heldFields_22 (by omega) (by omega) ⟨⟨some (18, d, k), rfl, Or.inl ⟨k, hk, hjob, c15, rfl⟩⟩, rfl, rfl⟩
  ·
    refine k_astore_nN X dX1_heldFields_5 rfl (by rw [hN]; decide) ?_
    refine k_aload_nN X dX1_heldFields_6 rfl rfl ?_
    refine k_ifnullN (tgt := 23) X dX1_heldFields_7 (by decide) ?_
    refine k_aload_nN X dX1_heldFields_23 rfl rfl ?_
    refine k_ifnonnullN X dX1_heldFields_24 ?_
    refine k_iload_n X dX1_heldFields_27 rfl rfl ?_
    refine k_goto (tgt := 35) X dX1_heldFields_28 (by decide) ?_
    refine k_istore_n X dX1_heldFields_35 rfl (by rw [hN]; decide) ?_
    refine k_iload_n X dX1_heldFields_36 rfl rfl ?_
    refine k_if_lt (tgt := 55) X dX1_heldFields_37 (by decide) (fun c37 => ?_) (fun c37 => ?_)
    ·
      refine k_null X dX1_heldFields_55 ?_
      exact k_aret X hE (Or.inl ⟨_, rfl⟩) (Or.inl rfl) dX1_heldFields_56 (by omega) (by omega) ⟨⟨none, rfl, Or.inr ⟨(fun k2 hk2 e2 => absurd e2 (hno k2 hk2)), _, Or.inr ⟨hno, rfl⟩, Or.inr ⟨by first | exact fun n2 hn2 e2 => absurd (show nI n2 < 0 from e2 ▸ c37) (nI_pos (by omega)) | exact fun n2 hn2 e2 => absurd (show nI 40 ≤ nI n2 from e2 ▸ c43) (nI_ge hn2 (by decide)) | exact fun n2 hn2 e2 => by rw [nI_inj (e2.symm.trans hrn) (by omega) (by omega)]; exact c52, rfl⟩⟩⟩, rfl, rfl⟩
    ·
      refine k_iload_n X dX1_heldFields_40 rfl rfl ?_
      refine k_bipush (v := (nI 40)) X dX1_heldFields_41 (by decide) ?_
      refine k_icmp_ge (tgt := 55) X dX1_heldFields_43 (by decide) (fun c43 => ?_) (fun c43 => ?_)
      ·
        refine k_null X dX1_heldFields_55 ?_
        exact k_aret X hE (Or.inl ⟨_, rfl⟩) (Or.inl rfl) dX1_heldFields_56 (by omega) (by omega) ⟨⟨none, rfl, Or.inr ⟨(fun k2 hk2 e2 => absurd e2 (hno k2 hk2)), _, Or.inr ⟨hno, rfl⟩, Or.inr ⟨by first | exact fun n2 hn2 e2 => absurd (show nI n2 < 0 from e2 ▸ c37) (nI_pos (by omega)) | exact fun n2 hn2 e2 => absurd (show nI 40 ≤ nI n2 from e2 ▸ c43) (nI_ge hn2 (by decide)) | exact fun n2 hn2 e2 => by rw [nI_inj (e2.symm.trans hrn) (by omega) (by omega)]; exact c52, rfl⟩⟩⟩, rfl, rfl⟩
      ·
        refine k_aload_n X dX1_heldFields_46 rfl rfl ?_
        refine k_get0 X (hX.2 d hd).1 (q := (RX1, TX1, 9)) rfl inlX1 2 (by decide) kb_41 (Or.inl rfl) rfl rfl dX1_heldFields_47 ?_
        refine k_iload_n X dX1_heldFields_50 rfl rfl ?_
        obtain ⟨n, hn, hrn⟩ : ∃ n : Nat, n < 40 ∧ job = nI n := by
          rcases pk_ix (job) (n := 40) (by decide) with z | z | ⟨j, h1, h2⟩
          · exact absurd z c37
          · exact absurd z c43
          · exact ⟨j, h1, h2⟩
        refine k_zald X (hX.2 d hd).2.2.1 rfl (by rw [hrn]; exact vp_in_nI hn (by decide)) dX1_heldFields_51 ?_
        refine k_rw (y := S 5 d n 0) (by rw [hrn, nI_clamp (by omega)]) ?_
        refine k_if_ne (tgt := 57) X dX1_heldFields_52 (by decide) (fun c52 => ?_) (fun c52 => ?_)
        ·
          refine k_aload_n X dX1_heldFields_57 rfl rfl ?_
          refine k_get0 X (hX.2 d hd).1 (q := (RX1, TX1, 9)) rfl inlX1 1 (by decide) kb_39 (Or.inl rfl) rfl rfl dX1_heldFields_58 ?_
          refine k_iload_n X dX1_heldFields_61 rfl rfl ?_
          by_cases h11 : N 11 d n = 0
          ·
            refine k_aald X (hX.2 d hd).2.1 (nm := RX2) rfl rfl (by rw [hrn]; exact vp_in_nI hn (by decide)) dX1_heldFields_62 (v := .null) (by rw [hrn, nI_clamp (by omega)]; simp only [if_pos h11, va_rf]) ?_
            exact k_aret X hE (Or.inl ⟨_, rfl⟩) (Or.inl rfl) dX1_heldFields_63 (by omega) (by omega) ⟨⟨none, rfl, Or.inr ⟨(fun k2 hk2 e2 => absurd e2 (hno k2 hk2)), _, Or.inr ⟨hno, rfl⟩, Or.inl ⟨n, hn, hrn, c52, Or.inr ⟨h11, rfl⟩⟩⟩⟩, rfl, rfl⟩
          ·
            refine k_aald X (hX.2 d hd).2.1 (nm := RX2) rfl rfl (by rw [hrn]; exact vp_in_nI hn (by decide)) dX1_heldFields_62 (v := .ref (L (16, d, n))) (by rw [hrn, nI_clamp (by omega)]; simp only [if_neg h11, va_rf]) ?_
            exact k_aret X hE (Or.inl ⟨_, rfl⟩) (Or.inr ⟨_, rfl⟩) dX1_heldFields_63 (by omega) (by omega) ⟨⟨some (16, d, n), rfl, Or.inr ⟨(fun k2 hk2 e2 => absurd e2 (hno k2 hk2)), _, Or.inr ⟨hno, rfl⟩, Or.inl ⟨n, hn, hrn, c52, Or.inl ⟨h11, rfl⟩⟩⟩⟩, rfl, rfl⟩
        ·
          refine k_null X dX1_heldFields_55 ?_
          exact k_aret X hE (Or.inl ⟨_, rfl⟩) (Or.inl rfl) dX1_heldFields_56 (by omega) (by omega) ⟨⟨none, rfl, Or.inr ⟨(fun k2 hk2 e2 => absurd e2 (hno k2 hk2)), _, Or.inr ⟨hno, rfl⟩, Or.inr ⟨by first | exact fun n2 hn2 e2 => absurd (show nI n2 < 0 from e2 ▸ c37) (nI_pos (by omega)) | exact fun n2 hn2 e2 => absurd (show nI 40 ≤ nI n2 from e2 ▸ c43) (nI_ge hn2 (by decide)) | exact fun n2 hn2 e2 => by rw [nI_inj (e2.symm.trans hrn) (by omega) (by omega)]; exact c52, rfl⟩⟩⟩, rfl, rfl⟩

set_option maxHeartbeats 4000000 in
set_option maxRecDepth 100000 in
theorem c_heldCount {l : Launch} (htr : l.stackTraces = false) {E : kE} {A : Nat → Prop} {C : kC} {L : kL} {S : kI4} {N : kN3} (hX : isX E C L S N) (hO : okX S N) {d : Nat} (hd : d < 4)  : kM l yX1_heldCount cX1_heldCount 1 (some .int) 0 0 0 0 E A C L [.ref (L (5, d, 0))] (fun v C' L' => v = some (.int (S 6 d 0 0 + S 7 d 0 0)) ∧ L = L' ∧ C = C') := by
  refine kM.of htr (by decide) (Nat.le_of_ble_eq_true rfl) (fun Γ hl hR hN hnm X hE => ?_)
  refine k_lo (lo' := [(0, .ref (L (5, d, 0)))]) ⟨rfl, trivial⟩ ?_
  refine k_aload_n X dX1_heldCount_0 rfl rfl ?_
  refine k_get0 X (hX.2 d hd).1 (q := (RX1, TX1, 9)) rfl inlX1 3 (by decide) kb_42 (Or.inl rfl) rfl rfl dX1_heldCount_1 ?_
  refine k_aload_n X dX1_heldCount_4 rfl rfl ?_
  refine k_get0 X (hX.2 d hd).1 (q := (RX1, TX1, 9)) rfl inlX1 5 (by decide) kb_45 (Or.inl rfl) rfl rfl dX1_heldCount_5 ?_
  refine k_iadd X dX1_heldCount_8 ?_
  exact k_iret X hE dX1_heldCount_9 (by omega) (by omega) ⟨rfl, rfl, rfl⟩

set_option maxHeartbeats 4000000 in
set_option maxRecDepth 100000 in
theorem c_takesActs {l : Launch} (htr : l.stackTraces = false) {E : kE} {A : Nat → Prop} {C : kC} {L : kL} {S : kI4} {N : kN3} (hX : isX E C L S N) (hO : okX S N) {d : Nat} (hd : d < 4)  : kM l yX1_takesActs cX1_takesActs 1 (some .boolean) 1 20 0 0 E A C L [.ref (L (5, d, 0))] (fun v C' L' => v = some (.int (if N 3 d 0 < 512 then nI 1 else nI 0)) ∧ L = L' ∧ C = C') := by
  obtain ⟨vl8, hl8⟩ := (hX.2 d hd).2.2.2.1.hd
  obtain ⟨vl10, hl10⟩ := (hX.2 d hd).2.2.2.2.1.hd
  obtain ⟨vl12, hl12⟩ := (hX.2 d hd).2.2.2.2.2.1.hd
  have hb2 := (hO.2 d hd).1
  have hb3 := (hO.2 d hd).2.1
  have hb4 := (hO.2 d hd).2.2.1
  have hb5 := (hO.2 d hd).2.2.2.1
  refine kM.of htr (by decide) (Nat.le_of_ble_eq_true rfl) (fun Γ hl hR hN hnm X hE => ?_)
  refine k_lo (lo' := [(0, .ref (L (5, d, 0)))]) ⟨rfl, trivial⟩ ?_
  refine k_aload_n X dX1_takesActs_0 rfl rfl ?_
  refine k_get0 X (hX.2 d hd).1 (q := (RX1, TX1, 9)) rfl inlX1 6 (by decide) kb_46 (Or.inl rfl) rfl rfl dX1_takesActs_1 ?_
  refine k_callV (rest := []) X kv_Jx4a65c_size_8abf5 kb_275 (c_Ls_size X.tr (hX.2 d hd).2.2.2.2.1) hl10 rfl rfl rfl rfl rfl (Nat.le_of_ble_eq_true rfl) ⟨by rw [hR]; exact Nat.le_of_ble_eq_true rfl, by rw [hR]; exact Nat.le_of_ble_eq_true rfl⟩ ⟨by rw [hR]; exact Nat.le_of_ble_eq_true rfl, by rw [hR]; exact Nat.le_of_ble_eq_true rfl⟩ dX1_takesActs_4 (fun v4 C9 L9 h9 => ?_)
  obtain ⟨rfl, rfl, rfl⟩ := h9
  refine k_sipush (v := (nI 512)) X dX1_takesActs_7 (by decide) ?_
  refine k_icmp_ge (tgt := 17) X dX1_takesActs_10 (by decide) (fun c10 => ?_) (fun c10 => ?_)
  ·
    refine k_iconst (v := (nI 0)) X dX1_takesActs_17 (by decide) ?_
    exact k_zret X hE kz0 dX1_takesActs_18 (by omega) (by omega) ⟨by rw [if_neg (fun z => nI_ge z (by decide) c10)], rfl, rfl⟩
  ·
    refine k_iconst (v := (nI 1)) X dX1_takesActs_13 (by decide) ?_
    refine k_goto (tgt := 18) X dX1_takesActs_14 (by decide) ?_
    exact k_zret X hE kz1 dX1_takesActs_18 (by omega) (by omega) ⟨by rw [if_pos (show N 3 d 0 < 512 from Nat.lt_of_not_le fun z => c10 (nI_le z (by omega)))], rfl, rfl⟩

set_option maxHeartbeats 4000000 in
set_option maxRecDepth 100000 in
theorem c_waitingCount {l : Launch} (htr : l.stackTraces = false) {E : kE} {A : Nat → Prop} {C : kC} {L : kL} {S : kI4} {N : kN3} (hX : isX E C L S N) (hO : okX S N) {d : Nat} (hd : d < 4)  : kM l yX1_waitingCount cX1_waitingCount 1 (some .int) 1 20 0 0 E A C L [.ref (L (5, d, 0))] (fun v C' L' => v = some (.int (nI (N 3 d 0 - N 4 d 0))) ∧ L = L' ∧ C = C') := by
  obtain ⟨vl8, hl8⟩ := (hX.2 d hd).2.2.2.1.hd
  obtain ⟨vl10, hl10⟩ := (hX.2 d hd).2.2.2.2.1.hd
  obtain ⟨vl12, hl12⟩ := (hX.2 d hd).2.2.2.2.2.1.hd
  have hb2 := (hO.2 d hd).1
  have hb3 := (hO.2 d hd).2.1
  have hb4 := (hO.2 d hd).2.2.1
  have hb5 := (hO.2 d hd).2.2.2.1
  refine kM.of htr (by decide) (Nat.le_of_ble_eq_true rfl) (fun Γ hl hR hN hnm X hE => ?_)
  refine k_lo (lo' := [(0, .ref (L (5, d, 0)))]) ⟨rfl, trivial⟩ ?_
  refine k_aload_n X dX1_waitingCount_0 rfl rfl ?_
  refine k_get0 X (hX.2 d hd).1 (q := (RX1, TX1, 9)) rfl inlX1 6 (by decide) kb_46 (Or.inl rfl) rfl rfl dX1_waitingCount_1 ?_
  refine k_callV (rest := []) X kv_Jx4a65c_size_8abf5 kb_275 (c_Ls_size X.tr (hX.2 d hd).2.2.2.2.1) hl10 rfl rfl rfl rfl rfl (Nat.le_of_ble_eq_true rfl) ⟨by rw [hR]; exact Nat.le_of_ble_eq_true rfl, by rw [hR]; exact Nat.le_of_ble_eq_true rfl⟩ ⟨by rw [hR]; exact Nat.le_of_ble_eq_true rfl, by rw [hR]; exact Nat.le_of_ble_eq_true rfl⟩ dX1_waitingCount_4 (fun v4 C9 L9 h9 => ?_)
  obtain ⟨rfl, rfl, rfl⟩ := h9
  refine k_aload_n X dX1_waitingCount_7 rfl rfl ?_
  refine k_get0 X (hX.2 d hd).1 (q := (RX1, TX1, 9)) rfl inlX1 7 (by decide) kb_47 (Or.inl rfl) rfl rfl dX1_waitingCount_8 ?_
  refine k_isubN (h := hb4) X dX1_waitingCount_11 ?_
  exact k_iret X hE dX1_waitingCount_12 (by omega) (by omega) ⟨rfl, rfl, rfl⟩
end
section
/-- other names for the world, with what is known of it -/
theorem k_abs {Γ : kG} {E : kE} {A : Nat → Prop} {C : kC} {L : kL} {cells slots pc : Nat} {lo : List (Nat × Value)} {st : List Value} (Q : kC → Prop) (hq : Q C) (k9 : ∀ C', Q C' → kW Γ E A C' L cells slots pc lo st) : kW Γ E A C L cells slots pc lo st := k9 C hq
theorem k_abs2 {Γ : kG} {E : kE} {A : Nat → Prop} {C : kC} {L : kL} {cells slots pc : Nat} {lo : List (Nat × Value)} {st : List Value} (Q : kC → kL → Prop) (hq : Q C L) (k9 : ∀ C' L', Q C' L' → kW Γ E A C' L' cells slots pc lo st) : kW Γ E A C L cells slots pc lo st := k9 C L hq
theorem k_zastN {Γ : kG} {E : kE} {A : Nat → Prop} {cc : ByteArray} {own : String} {C : kC} {L : kL} {cells slots pc : Nat} {lo : List (Nat × Value)} {rest : List Value} (X : kX Γ E A cc own) {t : kT} {a : Nat} {n n9 : Nat} {f : Nat → Int32} {x : Int32} (hC : C t = some (.inl (E.2.1 1, n, .inl f))) (ha : L t = a) (h9 : n9 < n) (hn : n < 2 ^ 31) (hx9 : vp_nar .boolean x = x) (hdg : decode cc pc = .ok (.bastore, 1)) (k9 : kW Γ E A (kup C t (some (.inl (E.2.1 1, n, .inl (upd f n9 x))))) L cells slots (pc + 1) lo rest) : kW Γ E A C L cells slots pc lo (.int x :: .int (nI n9) :: .ref a :: rest) :=
  k_zast X hC ha (vp_in_nI h9 hn) hdg (by rw [nI_clamp (by omega), hx9]; exact k9)
theorem kzn0 : vp_nar .boolean (nI 0) = nI 0 := by decide
theorem kzn1 : vp_nar .boolean (nI 1) = nI 1 := by decide

theorem c_X2_initA {l : Launch} (htr : l.stackTraces = false) {E : kE} {A : Nat → Prop} {C : kC} {L : kL} {t : kT} {q0 : Nat} {a b c d : Int32} (ha : L t = q0) (h : C t = some (.inr (3, [.int a, .int b, .int c, .int d]))) : kM l yX2_init cX2_init 1 none 1 12 0 0 E A C L [.ref q0] (fun v C' L' => v = none ∧ L = L' ∧ C' = kup C t (some (.inr (3, [.int (nI 0), .int (nI 0), .int (nI 0), .int (nI 0)])))) := by
  subst ha
  exact c_X2_init htr h
theorem c_X0_initA {l : Launch} (htr : l.stackTraces = false) {E : kE} {A : Nat → Prop} {C : kC} {L : kL} {t : kT} {q0 : Nat} {a b c d e : Int32} (j f x y : Int32) (ha : L t = q0) (h : C t = some (.inr (1, [.int a, .int b, .int c, .int d, .int e]))) : kM l yX0_init cX0_init 5 none 1 12 0 0 E A C L [.ref q0, .int j, .int f, .int x, .int y] (fun v C' L' => v = none ∧ L = L' ∧ C' = kup C t (some (.inr (1, [.int j, .int f, .int x, .int y, .int (-1)])))) := by
  subst ha
  exact c_X0_init htr j f x y h
theorem c_Ls_sizeA {l : Launch} (htr : l.stackTraces = false) {E : kE} {A : Nat → Prop} {C : kC} {L : kL} {fh fa d n q0 : Nat} {g : Nat → Nat} (ha : L (fh, d, 0) = q0) (h : kLs E C L fh fa d n g) : kM l yJx4a65c_size_8abf5 cJx4a65c_size_8abf5 1 (some .int) 0 0 0 0 E A C L [.ref q0] (fun v C' L' => v = some (.int (nI n)) ∧ L = L' ∧ C = C') := by
  subst ha
  exact c_Ls_size htr h
theorem c_Ls_addA {l : Launch} (htr : l.stackTraces = false) {E : kE} {A : Nat → Prop} {C : kC} {L : kL} {fh fa d n ft dt kt ci q0 q1 : Nat} {g : Nat → Nat} {r : vw_C} {vsb : List Value} (ha0 : L (fh, d, 0) = q0) (ha1 : L (ft, dt, kt) = q1) (h : kLs E C L fh fa d n g) (hn : n ≤ 1000) (h60 : C (60, 0, 0) = none) (hc : vwCl[ci]? = some r) (hcas : (r.1, "java/lang/Object") ∈ kCas) (hb : C (ft, dt, kt) = some (.inr (ci, vsb))) (hf1 : fh ≠ fa) (hf2 : fh ≠ 60) (hf3 : fa ≠ 60) (ht1 : ft ≠ 60) (ht2 : ft ≠ fh) (ht3 : ft ≠ fa)
    (hel : ∀ i, i < n → ∃ (fz dz kz : Nat) (vs : List Value), fz ≠ 60 ∧ fz ≠ fh ∧ L (fz, dz, kz) = g i ∧ C (fz, dz, kz) = some (.inr (ci, vs))) :
    kM l yJx4a65c_add_9ea2d cJx4a65c_add_9ea2d 2 (some .boolean) 6 150 1 (10 + n + n / 2) E A C L [.ref q0, .ref q1] (fun v C' L' => v = some (.int (nI 1)) ∧ (∀ t, t ≠ (fh, d, 0) → t ≠ (fa, d, 0) → C' t = C t) ∧ (∀ t, t ≠ (fa, d, 0) → L' t = L t) ∧ ∀ g' : Nat → Nat, (∀ j, j < n → g' j = g j) → g' n = q1 → kLs E C' L' fh fa d (n + 1) g') := by
  subst ha0
  subst ha1
  exact c_Ls_add htr h hn h60 hc hcas hb hf1 hf2 hf3 ht1 ht2 ht3 hel

set_option maxHeartbeats 4000000 in
set_option maxRecDepth 100000 in
theorem c_X4_init {l : Launch} (htr : l.stackTraces = false) {E : kE} {A : Nat → Prop} {C : kC} {L : kL} {t tF : kT} {q0 : Nat} {a : Int32} {v1 : Value} (htf : t ≠ tF) (ha : L t = q0) (h : C t = some (.inr (5, [.int a, v1]))) : kM l yX4_init cX4_init 1 none 2 32 1 4 E A C L [.ref q0] (fun v C' L' => ∃ q : Nat, v = none ∧ L' = kup L tF q ∧ C' t = some (.inr (5, [.int (-1), .ref q])) ∧ C' tF = some (.inr (3, [.int (nI 0), .int (nI 0), .int (nI 0), .int (nI 0)])) ∧ ∀ x, x ≠ t → x ≠ tF → C' x = C x) := by
  refine kM.of htr (by decide) (Nat.le_of_ble_eq_true rfl) (fun Γ hl hR hN hnm X hE => ?_)
  refine k_lo (lo' := [(0, .ref q0)]) ⟨rfl, trivial⟩ ?_
  refine k_aload_n X dX4_init_0 rfl rfl ?_
  refine k_objInit X kb_320 kb_8 kb_9 (by rw [hR]; exact Nat.le_of_ble_eq_true rfl) (by rw [hR]; exact Nat.le_of_ble_eq_true rfl) dX4_init_1 ?_
  refine k_aload_n X dX4_init_4 rfl rfl ?_
  refine k_iconst (v := (-1)) X dX4_init_5 (by decide) ?_
  refine k_put1 X h (fs9 := [.int (-1), v1]) (q := (RX4, TX4, 2)) rfl inlX4 tyX4 tyX4_ok nmX4 0 (by decide) kb_321 (Or.inl rfl) (Or.inl rfl) ha rfl rfl (Nat.le_of_ble_eq_true rfl) rfl dX4_init_6 ?_
  refine k_aload_n X dX4_init_9 rfl rfl ?_
  refine k_new0 X tF (ci := 3) (q := (RX2, TX2, 4)) rfl inlX2 tyX2 tyX2_ok kb_322 kb_94 kb_95 (fs := [.int 0, .int 0, .int 0, .int 0]) (fun j hj => by rcases (show j = 0 ∨ j = 1 ∨ j = 2 ∨ j = 3 from by have : j < 4 := hj; omega) with rfl | rfl | rfl | rfl <;> rfl) dX4_init_10 (by rw [hR]; exact Nat.le_of_ble_eq_true rfl) (by rw [hR]; exact Nat.le_of_ble_eq_true rfl) (fun q9 => ?_)
  refine k_dup X dX4_init_13 rfl ?_
  refine k_callIN (rest := [.ref q9, .ref q0]) X ki_X2_init (host := RX5) (by decide +kernel) (c_X2_initA X.tr (t := tF) (a := 0) (b := 0) (c := 0) (d := 0) kup_s kup_s) rfl rfl (Nat.le_of_ble_eq_true rfl) ⟨by rw [hR]; exact Nat.le_of_ble_eq_true rfl, by rw [hR]; exact Nat.le_of_ble_eq_true rfl⟩ ⟨by rw [hR]; exact Nat.le_of_ble_eq_true rfl, by rw [hR]; exact Nat.le_of_ble_eq_true rfl⟩ dX4_init_14 (fun v14 C9 L9 h9 => ?_)
  obtain ⟨rfl, rfl, rfl⟩ := h9
  refine k_C (kup_kup).symm ?_
  refine k_put1 X ((kup_n htf).trans kup_s) (fs9 := [.int (-1), .ref q9]) (q := (RX4, TX4, 2)) rfl inlX4 tyX4 tyX4_ok nmX4 1 (by decide) kb_323 (Or.inl rfl) (Or.inr ⟨hnm, rfl⟩) ((kup_n htf).trans ha) rfl rfl (Nat.le_of_ble_eq_true rfl) rfl dX4_init_17 ?_
  exact k_vret X hE dX4_init_20 (by first | omega | exact Nat.le_of_ble_eq_true rfl | (dsimp only; omega)) (by first | omega | exact Nat.le_of_ble_eq_true rfl | (dsimp only; omega)) ⟨q9, rfl, rfl, kup_s, ((kup_n htf.symm).trans kup_s), fun x9 h1 h2 => by simp only [kup_n h1, kup_n h2]⟩

set_option maxHeartbeats 4000000 in
set_option maxRecDepth 100000 in
theorem c_X3_init {l : Launch} (htr : l.stackTraces = false) {E : kE} {A : Nat → Prop} {C : kC} {L : kL} {t tF : kT} {q0 : Nat} {a b : Int32} {v1 : Value} (cr si : Int32) (htf : t ≠ tF) (ha : L t = q0) (h : C t = some (.inr (4, [.int a, .int b, v1]))) : kM l yX3_init cX3_init 3 none 2 32 1 4 E A C L [.ref q0, .int cr, .int si] (fun v C' L' => ∃ q : Nat, v = none ∧ L' = kup L tF q ∧ C' t = some (.inr (4, [.int si, .int cr, .ref q])) ∧ C' tF = some (.inr (3, [.int (nI 0), .int (nI 0), .int (nI 0), .int (nI 0)])) ∧ ∀ x, x ≠ t → x ≠ tF → C' x = C x) := by
  refine kM.of htr (by decide) (Nat.le_of_ble_eq_true rfl) (fun Γ hl hR hN hnm X hE => ?_)
  refine k_lo (lo' := [(0, .ref q0), (1, .int cr), (2, .int si)]) ⟨rfl, rfl, rfl, trivial⟩ ?_
  refine k_aload_n X dX3_init_0 rfl rfl ?_
  refine k_objInit X kb_92 kb_8 kb_9 (by rw [hR]; exact Nat.le_of_ble_eq_true rfl) (by rw [hR]; exact Nat.le_of_ble_eq_true rfl) dX3_init_1 ?_
  refine k_aload_n X dX3_init_4 rfl rfl ?_
  refine k_new0 X tF (ci := 3) (q := (RX2, TX2, 4)) rfl inlX2 tyX2 tyX2_ok kb_93 kb_94 kb_95 (fs := [.int 0, .int 0, .int 0, .int 0]) (fun j hj => by rcases (show j = 0 ∨ j = 1 ∨ j = 2 ∨ j = 3 from by have : j < 4 := hj; omega) with rfl | rfl | rfl | rfl <;> rfl) dX3_init_5 (by rw [hR]; exact Nat.le_of_ble_eq_true rfl) (by rw [hR]; exact Nat.le_of_ble_eq_true rfl) (fun q9 => ?_)
  refine k_dup X dX3_init_8 rfl ?_
  refine k_callIN (rest := [.ref q9, .ref q0]) X ki_X2_init (host := RX5) (by decide +kernel) (c_X2_initA X.tr (t := tF) (a := 0) (b := 0) (c := 0) (d := 0) kup_s kup_s) rfl rfl (Nat.le_of_ble_eq_true rfl) ⟨by rw [hR]; exact Nat.le_of_ble_eq_true rfl, by rw [hR]; exact Nat.le_of_ble_eq_true rfl⟩ ⟨by rw [hR]; exact Nat.le_of_ble_eq_true rfl, by rw [hR]; exact Nat.le_of_ble_eq_true rfl⟩ dX3_init_9 (fun v9 C9 L9 h9 => ?_)
  obtain ⟨rfl, rfl, rfl⟩ := h9
  refine k_C (kup_kup).symm ?_
  refine k_put1 X ((kup_n htf).trans h) (fs9 := [.int a, .int b, .ref q9]) (q := (RX3, TX3, 3)) rfl inlX3 tyX3 tyX3_ok nmX3 2 (by decide) kb_96 (Or.inl rfl) (Or.inr ⟨hnm, rfl⟩) ((kup_n htf).trans ha) rfl rfl (Nat.le_of_ble_eq_true rfl) rfl dX3_init_12 ?_
  refine k_aload_n X dX3_init_15 rfl rfl ?_
  refine k_iload_n X dX3_init_16 rfl rfl ?_
  refine k_putS X (fs9 := [.int a, .int cr, .ref q9]) (q := (RX3, TX3, 3)) rfl inlX3 tyX3 tyX3_ok nmX3 1 (by decide) kb_97 (Or.inl rfl) (Or.inl rfl) ((kup_n htf).trans ha) rfl rfl (Nat.le_of_ble_eq_true rfl) rfl dX3_init_17 ?_
  refine k_aload_n X dX3_init_20 rfl rfl ?_
  refine k_iload_n X dX3_init_21 rfl rfl ?_
  refine k_putS X (fs9 := [.int si, .int cr, .ref q9]) (q := (RX3, TX3, 3)) rfl inlX3 tyX3 tyX3_ok nmX3 0 (by decide) kb_98 (Or.inl rfl) (Or.inr ⟨hnm, rfl⟩) ((kup_n htf).trans ha) rfl rfl (Nat.le_of_ble_eq_true rfl) rfl dX3_init_22 ?_
  exact k_vret X hE dX3_init_25 (by first | omega | exact Nat.le_of_ble_eq_true rfl | (dsimp only; omega)) (by first | omega | exact Nat.le_of_ble_eq_true rfl | (dsimp only; omega)) ⟨q9, rfl, rfl, kup_s, ((kup_n htf.symm).trans kup_s), fun x9 h1 h2 => by simp only [kup_n h1, kup_n h2]⟩
end
section
theorem kneD {f d' k f0 d k0 : Nat} (z : ¬ (f = f0 ∧ d' = d)) : ((f, d', k) : kT) ≠ (f0, d, k0) := fun e => z ⟨congrArg Prod.fst e, congrArg (fun x : kT => x.2.1) e⟩
theorem kneT {f d' k f0 d k0 : Nat} (z : ¬ (f = f0 ∧ d' = d ∧ k = k0)) : ((f, d', k) : kT) ≠ (f0, d, k0) := fun e => z ⟨congrArg Prod.fst e, congrArg (fun x : kT => x.2.1) e, congrArg (fun x : kT => x.2.2) e⟩
theorem kn16 {f d k : Nat} (h : f ≠ 16) : ((f, d, k) : kT).1 ≠ 16 := h
theorem c_X2_copyFromA {l : Launch} (htr : l.stackTraces = false) {E : kE} {A : Nat → Prop} {C : kC} {L : kL} {t u : kT} {q0 q1 : Nat} {a b c d a1 b1 c1 d1 : Int32} (ha0 : L t = q0) (ha1 : L u = q1) (hne : t ≠ u) (h : C t = some (.inr (3, [.int a, .int b, .int c, .int d]))) (g : C u = some (.inr (3, [.int a1, .int b1, .int c1, .int d1]))) : kM l yX2_copyFrom cX2_copyFrom 2 none 0 0 0 0 E A C L [.ref q0, .ref q1] (fun v C' L' => v = none ∧ L = L' ∧ C' = kup C t (some (.inr (3, [.int a1, .int b1, .int c1, .int d1])))) := by
  subst ha0
  subst ha1
  exact c_X2_copyFrom htr hne h g
/-- the first i copies dropped -/
def sDr (S : kI4) (d i : Nat) : kI4 := fun f d' k j => if f = 5 ∧ d' = d ∧ k < i ∧ j = 0 then nI 0 else S f d' k j
def sDrop (S : kI4) (d : Nat) : kI4 := w4 (sDr S d 40) 6 d 0 0 (nI 0)
theorem sDr_0 {S : kI4} {d : Nat} : sDr S d 0 = S := by
  funext f d' k j
  exact if_neg (by omega)
theorem sDr_n {S : kI4} {d i f d' k j : Nat} (z : ¬ (f = 5 ∧ d' = d)) : sDr S d i f d' k j = S f d' k j := if_neg (by omega)
theorem sDr_up {S : kI4} {d i : Nat} : upd (fun n => sDr S d i 5 d n 0) i (nI 0) = fun n => sDr S d (i + 1) 5 d n 0 := by
  funext n
  by_cases e : n = i
  · subst e
    simp [upd, sDr]
  · by_cases e2 : n < i
    · simp [upd, sDr, e, e2, Nat.lt_succ_of_lt e2]
    · simp [upd, sDr, e, e2, show ¬ n < i + 1 by omega]

set_option maxHeartbeats 4000000 in
set_option maxRecDepth 100000 in
theorem c_dropCopies {l : Launch} (htr : l.stackTraces = false) {E : kE} {A : Nat → Prop} {C : kC} {L : kL} {S : kI4} {N : kN3} (hX : isX E C L S N) (hO : okX S N) {d : Nat} (hd : d < 4)  : kM l yX1_dropCopies cX1_dropCopies 2 none 0 0 0 0 E A C L [.ref (L (5, d, 0))] (fun v C' L' => v = none ∧ L = L' ∧ kFr C L C' L ∧ isX E C' L (sDrop S d) N) := by
  refine kM.of htr (by decide) (Nat.le_of_ble_eq_true rfl) (fun Γ hl hR hN hnm X hE => ?_)
  refine k_lo (lo' := [(0, .ref (L (5, d, 0)))]) ⟨rfl, trivial⟩ ?_
  have loop : ∀ (m i : Nat) (C9 : kC), i + m = 40 → isX E C9 L (sDr S d i) N → kFr C L C9 L → kW Γ E A C9 L 0 0 2 [(0, .ref (L (5, d, 0))), (1, .int (nI i))] [] := by
    intro m
    induction m with
    | zero =>
      intro i C9 hi hX9 hfr
      have e40 : i = 40 := by omega
      subst e40
      refine k_iload_n X dX1_dropCopies_2 rfl rfl ?_
      refine k_bipush (v := (nI 40)) X dX1_dropCopies_3 (by decide) ?_
      refine k_icmp_ge (tgt := 21) X dX1_dropCopies_5 (by decide) (fun c5 => ?_) (fun c5 => absurd (nI_le (Nat.le_refl 40) (by decide)) c5)
      refine k_aload_n X dX1_dropCopies_21 rfl rfl ?_
      refine k_iconst (v := (nI 0)) X dX1_dropCopies_22 (by decide) ?_
      refine k_put1 X (hX9.2 d hd).1 (fs9 := [.int ((sDr S d 40) 4 d 0 0), .ref (L (6, d, 0)), .ref (L (7, d, 0)), .int (nI 0), .ref (L (8, d, 0)), .int ((sDr S d 40) 7 d 0 0), .ref (L (10, d, 0)), .int (nI (N 4 d 0)), .ref (L (12, d, 0))]) (q := (RX1, TX1, 9)) rfl inlX1 tyX1 tyX1_ok nmX1 3 (by decide) kb_42 (Or.inl rfl) (Or.inl rfl) rfl rfl rfl (Nat.le_of_ble_eq_true rfl) rfl dX1_dropCopies_23 ?_
      exact k_vret X hE dX1_dropCopies_26 (by first | omega | exact Nat.le_of_ble_eq_true rfl | (dsimp only; omega)) (by first | omega | exact Nat.le_of_ble_eq_true rfl | (dsimp only; omega)) ⟨rfl, rfl, hfr.up (by decide), isX.d5 (S' := sDrop S d) (N' := N) (L' := L) (kup_s.trans (by simp [kDev, sDrop, w4])) hX9 (fun f d' k z => kup_n (kneD z)) (fun _ _ _ _ => rfl) (fun f d' k j z => w4_n (by omega)) (fun _ _ _ _ => rfl)⟩
    | succ m ih =>
      intro i C9 hi hX9 hfr
      have hi2 : i < 40 := by omega
      refine k_iload_n X dX1_dropCopies_2 rfl rfl ?_
      refine k_bipush (v := (nI 40)) X dX1_dropCopies_3 (by decide) ?_
      refine k_icmp_ge (tgt := 21) X dX1_dropCopies_5 (by decide) (fun c5 => absurd c5 (nI_ge hi2 (by decide))) (fun c5 => ?_)
      refine k_aload_n X dX1_dropCopies_8 rfl rfl ?_
      refine k_get0 X (hX9.2 d hd).1 (q := (RX1, TX1, 9)) rfl inlX1 2 (by decide) kb_41 (Or.inl rfl) rfl rfl dX1_dropCopies_9 ?_
      refine k_iload_n X dX1_dropCopies_12 rfl rfl ?_
      refine k_iconst (v := (nI 0)) X dX1_dropCopies_13 (by decide) ?_
      refine k_zastN X (hX9.2 d hd).2.2.1 rfl hi2 (by decide) kzn0 dX1_dropCopies_14 ?_
      refine k_abs (fun C' => isX E C' L (sDr S d (i + 1)) N ∧ kFr C L C' L) ⟨isX.a7 (kup_s.trans (by rw [sDr_up])) hX9 (fun f d' k z => kup_n (kneD z)) (fun _ _ _ _ => rfl) (fun f d' k j z => by rw [sDr_n z, sDr_n z]) (fun _ _ _ _ => rfl), hfr.up (by decide)⟩ (fun C1 hC1 => ?_)
      refine k_iinc (v := (nI (i + 1))) X dX1_dropCopies_15 rfl (by rw [show Int32.ofInt 1 = nI 1 from by decide, nI_add]) (by rw [hN]; decide) ?_
      refine k_goto (tgt := 2) X dX1_dropCopies_18 (by decide) ?_
      exact k_lo (lo' := [(0, .ref (L (5, d, 0))), (1, .int (nI (i + 1)))]) ⟨rfl, rfl, trivial⟩ (ih (i + 1) C1 (by omega) hC1.1 hC1.2)
  refine k_iconst (v := (nI 0)) X dX1_dropCopies_0 (by decide) ?_
  refine k_istore_n X dX1_dropCopies_1 rfl (by rw [hN]; decide) ?_
  exact k_lo (lo' := [(0, .ref (L (5, d, 0))), (1, .int (nI 0))]) ⟨rfl, rfl, trivial⟩ (loop 40 0 C (by omega) (by rw [sDr_0]; exact hX) kFr.rf)

def sCopy (S : kI4) (d n : Nat) (g : Nat → Int32) : kI4 := fun f d' k j => if f = 8 ∧ d' = d ∧ k = n ∧ j < 4 then g j else S f d' k j
theorem sCopy_n {S : kI4} {d n f d' k j : Nat} {g : Nat → Int32} (z : ¬ (f = 8 ∧ d' = d ∧ k = n)) : sCopy S d n g f d' k j = S f d' k j := if_neg (by omega)
theorem sCopy_s {S : kI4} {d n j : Nat} {g : Nat → Int32} (h : j < 4) : sCopy S d n g 8 d n j = g j := if_pos ⟨rfl, rfl, rfl, h⟩
theorem sCopy_2 {S : kI4} {d n : Nat} {g g' : Nat → Int32} : sCopy (sCopy S d n g') d n g = sCopy S d n g := by
  funext f d' k j
  by_cases z : f = 8 ∧ d' = d ∧ k = n ∧ j < 4
  · simp [sCopy, z]
  · simp [sCopy, z]
def sHold (S : kI4) (d n : Nat) (g : Nat → Int32) : kI4 := if S 5 d n 0 = 0 then w4 (w4 (sCopy S d n g) 5 d n 0 (nI 1)) 6 d 0 0 (S 6 d 0 0 + nI 1) else sCopy S d n g
def nHold (N : kN3) (d n : Nat) : kN3 := if N 11 d n = 0 then w3 N 11 d n 1 else N
theorem nHold_n {N : kN3} {d n f d' k : Nat} (z : ¬ (f = 11 ∧ d' = d ∧ k = n)) : nHold N d n f d' k = N f d' k := by
  unfold nHold
  by_cases h : N 11 d n = 0
  · rw [if_pos h, w3_n z]
  · rw [if_neg h]
theorem okX.hold {S S' : kI4} {N : kN3} {d n : Nat} (h : okX S N) : okX S' (nHold N d n) := by
  refine ⟨by rw [nHold_n (by omega)]; exact h.1, fun d' hd' => ?_⟩
  have h2 := h.2 d' hd'
  rw [nHold_n (by omega), nHold_n (by omega), nHold_n (by omega), nHold_n (by omega)]
  exact ⟨h2.1, h2.2.1, h2.2.2.1, h2.2.2.2.1, fun i hi => by rw [nHold_n (by omega)]; exact h2.2.2.2.2 i hi⟩

theorem kupd_w4 {S : kI4} {d n : Nat} {x : Int32} : upd (fun m => S 5 d m 0) n x = fun m => w4 S 5 d n 0 x 5 d m 0 := by
  funext m
  by_cases e : m = n
  · subst e
    simp [upd, w4]
  · simp [upd, w4, e]
theorem kcps_up {E : kE} {L : kL} {N : kN3} {d n q9 : Nat} : (some (.inl (E.2.1 4, 40, .inr (.inr (.inr (.inr (va_up (fun m => if N 11 d m = 0 then none else some (L (16, d, m))) n (some q9))))))) : Option va_E) = some (kCps E (kup L (16, d, n) q9) (w3 N 11 d n 1) d) := by
  have h9 : va_up (fun m => if N 11 d m = 0 then none else some (L (16, d, m))) n (some q9) = fun m => if w3 N 11 d n 1 11 d m = 0 then none else some (kup L (16, d, n) q9 (16, d, m)) := by
    funext m
    by_cases e : m = n
    · subst e
      simp [va_up, w3, kup_s]
    · simp [va_up, w3, e, kup_n (kneT (fun z => e z.2.2) : ((16, d, m) : kT) ≠ (16, d, n))]
  unfold kCps
  rw [h9]
theorem k_aastF {Γ : kG} {E : kE} {A : Nat → Prop} {cc : ByteArray} {own : String} {C : kC} {L : kL} {cells slots pc : Nat} {lo : List (Nat × Value)} {rest : List Value} (X : kX Γ E A cc own) {t u : kT} {a v : Nat} {n n9 j ci : Nat} {nm : String} {f : Nat → Option Nat} {r : vw_C} {vs : List Value} (hC : C t = some (.inl (E.2.1 j, n, .inr (.inr (.inr (.inr f)))))) (hj : (kty E.2.1)[j]? = some (E.2.1 j, .object nm)) (ha : L t = a) (hu : C u = some (.inr (ci, vs))) (hv : L u = v) (hc : vwCl[ci]? = some r) (hca : r.1 = nm ∨ (r.1, nm) ∈ kCas) (h9 : n9 < n) (hn : n < 2 ^ 31) (hdg : decode cc pc = .ok (.aastore, 1)) (k9 : kW Γ E A (kup C t (some (.inl (E.2.1 j, n, .inr (.inr (.inr (.inr (va_up f n9 (some v))))))))) L cells slots (pc + 1) lo rest) : kW Γ E A C L cells slots pc lo (.ref v :: .int (nI n9) :: .ref a :: rest) := k_aastN X hC hj ha hu hv hc hca h9 hn hdg k9

set_option maxHeartbeats 4000000 in
set_option maxRecDepth 100000 in
theorem c_hold {l : Launch} (htr : l.stackTraces = false) {E : kE} {A : Nat → Prop} {C : kC} {L : kL} {S : kI4} {N : kN3} (hX : isX E C L S N) (hO : okX S N) {d : Nat} (hd : d < 4) {n : Nat} (hn : n < 40) {ff df kf : Nat} (hff : ff = 15 ∨ ff = 18) (g : Nat → Int32) (hg : C (ff, df, kf) = some (.inr (3, [.int (g 0), .int (g 1), .int (g 2), .int (g 3)]))) : kM l yX1_hold cX1_hold 4 none 2 32 1 4 E A C L [.ref (L (5, d, 0)), .int (nI n), .ref (L (ff, df, kf))] (fun v C' L' => v = none ∧ isX E C' L' (sHold S d n g) (nHold N d n) ∧ kFr C L C' L' ∧ ∀ t : kT, t.1 ≠ 16 → L' t = L t) := by
  refine kM.of htr (by decide) (Nat.le_of_ble_eq_true rfl) (fun Γ hl hR hN hnm X hE => ?_)
  refine k_lo (lo' := [(0, .ref (L (5, d, 0))), (1, .int (nI n)), (2, .ref (L (ff, df, kf)))]) ⟨rfl, rfl, rfl, trivial⟩ ?_
  have cont : ∀ (C1 : kC) (L1 : kL) (S1 : kI4) (N1 : kN3), isX E C1 L1 S1 N1 → N1 11 d n ≠ 0 → kFr C L C1 L1 → (∀ t : kT, t.1 ≠ 16 → L1 t = L t) → C1 (ff, df, kf) = some (.inr (3, [.int (g 0), .int (g 1), .int (g 2), .int (g 3)])) → sCopy S1 d n g = sCopy S d n g → nHold N d n = N1 → kW Γ E A C1 L1 1 4 37 [(0, .ref (L (5, d, 0))), (1, .int (nI n)), (2, .ref (L (ff, df, kf))), (3, .ref (L1 (16, d, n)))] [] := by
    intro C1 L1 S1 N1 hX1 hN1 hfr1 hL1 hg1 hS1 hNN
    refine k_aload_n X dX1_hold_37 rfl rfl ?_
    refine k_aload_n X dX1_hold_38 rfl rfl ?_
    refine k_callV (rest := []) X kv_X2_copyFrom kb_246 (c_X2_copyFromA X.tr (t := (16, d, n)) (u := (ff, df, kf)) rfl (hL1 _ (kn16 (by rcases hff with e | e <;> rw [e] <;> decide))) (kne1 (by rcases hff with e | e <;> rw [e] <;> decide)) ((hX1.2 d hd).2.2.2.2.2.2.1 n hN1) hg1) ((hX1.2 d hd).2.2.2.2.2.2.1 n hN1) rfl rfl rfl rfl rfl (Nat.le_of_ble_eq_true rfl) ⟨by rw [hR]; exact Nat.le_of_ble_eq_true rfl, by rw [hR]; exact Nat.le_of_ble_eq_true rfl⟩ ⟨by rw [hR]; exact Nat.le_of_ble_eq_true rfl, by rw [hR]; exact Nat.le_of_ble_eq_true rfl⟩ dX1_hold_39 (fun v39 C9 L9 h9 => ?_)
    obtain ⟨rfl, rfl, rfl⟩ := h9
    refine k_abs (fun C' => isX E C' L1 (sCopy S1 d n g) N1 ∧ kFr C L C' L1) ⟨isX.f16 (kup_s.trans (by simp only [kF, sCopy_s (show 0 < 4 by decide), sCopy_s (show 1 < 4 by decide), sCopy_s (show 2 < 4 by decide), sCopy_s (show 3 < 4 by decide)])) hX1 (fun f d' k z => kup_n (kneT z)) (fun _ _ _ _ => rfl) (fun f d' k j z => sCopy_n z) (fun _ _ _ _ => rfl), hfr1.up (by decide)⟩ (fun C2 hC2 => ?_)
    rw [hS1] at hC2
    refine k_aload_n X dX1_hold_42 rfl rfl ?_
    refine k_get0 X (hC2.1.2 d hd).1 (q := (RX1, TX1, 9)) rfl inlX1 2 (by decide) kb_41 (Or.inl rfl) (hL1 (5, d, 0) (kn16 (by decide))) rfl dX1_hold_43 ?_
    refine k_iload_n X dX1_hold_46 rfl rfl ?_
    refine k_zald X (hC2.1.2 d hd).2.2.1 rfl (vp_in_nI hn (by decide)) dX1_hold_47 ?_
    refine k_rw (y := S 5 d n 0) (by rw [nI_clamp (by omega)]; exact sCopy_n (by omega)) ?_
    refine k_if_ne (tgt := 68) X dX1_hold_48 (by decide) (fun c48 => ?_) (fun c48 => ?_)
    ·
      exact k_vret X hE dX1_hold_68 (by first | omega | exact Nat.le_of_ble_eq_true rfl | (dsimp only; omega)) (by first | omega | exact Nat.le_of_ble_eq_true rfl | (dsimp only; omega)) ⟨rfl, by rw [hNN]; unfold sHold; rw [if_neg c48]; exact hC2.1, hC2.2, hL1⟩
    ·
      refine k_aload_n X dX1_hold_51 rfl rfl ?_
      refine k_get0 X (hC2.1.2 d hd).1 (q := (RX1, TX1, 9)) rfl inlX1 2 (by decide) kb_41 (Or.inl rfl) (hL1 (5, d, 0) (kn16 (by decide))) rfl dX1_hold_52 ?_
      refine k_iload_n X dX1_hold_55 rfl rfl ?_
      refine k_iconst (v := (nI 1)) X dX1_hold_56 (by decide) ?_
      refine k_zastN X (hC2.1.2 d hd).2.2.1 rfl hn (by decide) kzn1 dX1_hold_57 ?_
      refine k_abs (fun C' => isX E C' L1 (w4 (sCopy S d n g) 5 d n 0 (nI 1)) N1 ∧ kFr C L C' L1) ⟨isX.a7 (kup_s.trans (by rw [kupd_w4])) hC2.1 (fun f d' k z => kup_n (kneD z)) (fun _ _ _ _ => rfl) (fun f d' k j z => w4_n (by omega)) (fun _ _ _ _ => rfl), hC2.2.up (by decide)⟩ (fun C3 hC3 => ?_)
      refine k_aload_n X dX1_hold_58 rfl rfl ?_
      refine k_dup X dX1_hold_59 rfl ?_
      refine k_get0 X (hC3.1.2 d hd).1 (q := (RX1, TX1, 9)) rfl inlX1 3 (by decide) kb_42 (Or.inl rfl) (hL1 (5, d, 0) (kn16 (by decide))) rfl dX1_hold_60 ?_
      refine k_iconst (v := (nI 1)) X dX1_hold_63 (by decide) ?_
      refine k_iadd X dX1_hold_64 ?_
      refine k_put1 X (hC3.1.2 d hd).1 (fs9 := [.int ((w4 (sCopy S d n g) 5 d n 0 (nI 1)) 4 d 0 0), .ref (L1 (6, d, 0)), .ref (L1 (7, d, 0)), .int (((w4 (sCopy S d n g) 5 d n 0 (nI 1)) 6 d 0 0) + (nI 1)), .ref (L1 (8, d, 0)), .int ((w4 (sCopy S d n g) 5 d n 0 (nI 1)) 7 d 0 0), .ref (L1 (10, d, 0)), .int (nI (N1 4 d 0)), .ref (L1 (12, d, 0))]) (q := (RX1, TX1, 9)) rfl inlX1 tyX1 tyX1_ok nmX1 3 (by decide) kb_42 (Or.inl rfl) (Or.inl rfl) (hL1 (5, d, 0) (kn16 (by decide))) rfl rfl (Nat.le_of_ble_eq_true rfl) rfl dX1_hold_65 ?_
      exact k_vret X hE dX1_hold_68 (by first | omega | exact Nat.le_of_ble_eq_true rfl | (dsimp only; omega)) (by first | omega | exact Nat.le_of_ble_eq_true rfl | (dsimp only; omega)) ⟨rfl, by rw [hNN]; unfold sHold; rw [if_pos c48]; exact isX.d5 (kup_s.trans (by simp only [kDev, w4_s, w4_n (show ¬ (4 = 6 ∧ d = d ∧ 0 = 0 ∧ 0 = 0) by omega), w4_n (show ¬ (7 = 6 ∧ d = d ∧ 0 = 0 ∧ 0 = 0) by omega)]; rw [show w4 (sCopy S d n g) 5 d n 0 (nI 1) 6 d 0 0 = S 6 d 0 0 from (w4_n (by omega)).trans (sCopy_n (by omega))])) hC3.1 (fun f d' k z => kup_n (kneD z)) (fun _ _ _ _ => rfl) (fun f d' k j z => w4_n (by omega)) (fun _ _ _ _ => rfl), hC3.2.up (by decide), hL1⟩
  refine k_iload_n X dX1_hold_0 rfl rfl ?_
  refine k_if_lt (tgt := 10) X dX1_hold_1 (by decide) (fun c1 => absurd c1 (nI_pos (by omega))) (fun c1 => ?_)
  refine k_iload_n X dX1_hold_4 rfl rfl ?_
  refine k_bipush (v := (nI 40)) X dX1_hold_5 (by decide) ?_
  refine k_icmp_lt (tgt := 11) X dX1_hold_7 (by decide) (fun c7 => ?_) (fun c7 => absurd (nI_lt hn (by decide)) c7)
  refine k_aload_n X dX1_hold_11 rfl rfl ?_
  refine k_get0 X (hX.2 d hd).1 (q := (RX1, TX1, 9)) rfl inlX1 1 (by decide) kb_39 (Or.inl rfl) rfl rfl dX1_hold_12 ?_
  refine k_iload_n X dX1_hold_15 rfl rfl ?_
  by_cases h11 : N 11 d n = 0
  ·
    refine k_aald X (hX.2 d hd).2.1 (nm := RX2) rfl rfl (vp_in_nI hn (by decide)) dX1_hold_16 (v := .null) (by rw [nI_clamp (by omega)]; simp only [if_pos h11, va_rf]) ?_
    refine k_astore_nN X dX1_hold_17 rfl (by rw [hN]; decide) ?_
    refine k_aload_nN X dX1_hold_18 rfl rfl ?_
    refine k_ifnonnullN X dX1_hold_19 ?_
    refine k_new0 X (16, d, n) (ci := 3) (q := (RX2, TX2, 4)) rfl inlX2 tyX2 tyX2_ok kb_38 kb_94 kb_95 (fs := [.int 0, .int 0, .int 0, .int 0]) (fun j hj => by rcases (show j = 0 ∨ j = 1 ∨ j = 2 ∨ j = 3 from by have : j < 4 := hj; omega) with rfl | rfl | rfl | rfl <;> rfl) dX1_hold_22 (by rw [hR]; exact Nat.le_of_ble_eq_true rfl) (by rw [hR]; exact Nat.le_of_ble_eq_true rfl) (fun q9 => ?_)
    refine k_dup X dX1_hold_25 rfl ?_
    refine k_callIN (rest := [.ref q9]) X ki_X2_init (host := RX5) (by decide +kernel) (c_X2_initA X.tr (t := (16, d, n)) (a := 0) (b := 0) (c := 0) (d := 0) kup_s kup_s) rfl rfl (Nat.le_of_ble_eq_true rfl) ⟨by rw [hR]; exact Nat.le_of_ble_eq_true rfl, by rw [hR]; exact Nat.le_of_ble_eq_true rfl⟩ ⟨by rw [hR]; exact Nat.le_of_ble_eq_true rfl, by rw [hR]; exact Nat.le_of_ble_eq_true rfl⟩ dX1_hold_26 (fun v26 C9 L9 h9 => ?_)
    obtain ⟨rfl, rfl, rfl⟩ := h9
    refine k_C (kup_kup).symm ?_
    refine k_astore_n X dX1_hold_29 rfl (by rw [hN]; decide) ?_
    refine k_aload_n X dX1_hold_30 rfl rfl ?_
    refine k_get0 X ((kup_n (kne1 (by decide))).trans (hX.2 d hd).1) (q := (RX1, TX1, 9)) rfl inlX1 1 (by decide) kb_39 (Or.inl rfl) ((kup_n (kne1 (by decide))).trans rfl) rfl dX1_hold_31 ?_
    refine k_iload_n X dX1_hold_34 rfl rfl ?_
    refine k_aload_n X dX1_hold_35 rfl rfl ?_
    refine k_aastF X (t := (6, d, 0)) (u := (16, d, n)) ((kup_n (kne1 (by decide))).trans (hX.2 d hd).2.1) (nm := RX2) rfl (kup_n (kne1 (by decide))) kup_s kup_s (r := (RX2, TX2, 4)) rfl (Or.inl rfl) hn (by decide) dX1_hold_36 ?_
    refine k_abs2 (fun C' L' => isX E C' L' (sCopy S d n (fun _ => nI 0)) (w3 N 11 d n 1) ∧ kFr C L C' L' ∧ (∀ t : kT, t.1 ≠ 16 → L' t = L t) ∧ L' (16, d, n) = q9 ∧ C' (ff, df, kf) = C (ff, df, kf)) ⟨?_, (kFr.rf.up (by decide)).upL (by decide) |>.up (by decide), fun t ht => kup_n (fun e => ht (congrArg Prod.fst e)), kup_s, by rw [kup_n (kne1 (by rcases hff with e | e <;> rw [e] <;> decide)), kup_n (kne1 (by rcases hff with e | e <;> rw [e] <;> decide))]⟩ (fun C1 L1 h1 => ?_)
    · exact isX.newc (d := d) (n := n) (by rw [w3_s]; decide) (kup_s.trans kcps_up) ((kup_n (kne1 (by decide))).trans (kup_s.trans (by simp only [kF, sCopy_s (show 0 < 4 by decide), sCopy_s (show 1 < 4 by decide), sCopy_s (show 2 < 4 by decide), sCopy_s (show 3 < 4 by decide)]))) hX (fun f d' k z => by rw [kup_n (kneD (by omega)), kup_n (kneT (by omega))]) (fun f d' k z => kup_n (kneT z)) (fun f d' k j z => sCopy_n z) (fun f d' k z => w3_n z)
    obtain ⟨hX1, hfr1, hL1, rfl, hg1⟩ := h1
    exact k_lo (lo' := [(0, .ref (L (5, d, 0))), (1, .int (nI n)), (2, .ref (L (ff, df, kf))), (3, .ref (L1 (16, d, n)))]) ⟨rfl, rfl, rfl, rfl, trivial⟩ (cont C1 L1 (sCopy S d n (fun _ => nI 0)) (w3 N 11 d n 1) hX1 (by rw [w3_s]; decide) hfr1 hL1 (hg1.trans hg) sCopy_2 (by unfold nHold; rw [if_pos h11]))
  ·
    refine k_aald X (hX.2 d hd).2.1 (nm := RX2) rfl rfl (vp_in_nI hn (by decide)) dX1_hold_16 (v := .ref (L (16, d, n))) (by rw [nI_clamp (by omega)]; simp only [if_neg h11, va_rf]) ?_
    refine k_astore_n X dX1_hold_17 rfl (by rw [hN]; decide) ?_
    refine k_aload_n X dX1_hold_18 rfl rfl ?_
    refine k_ifnonnull (tgt := 37) X dX1_hold_19 (by decide) ?_
    refine k_wide (Nat.zero_le 1) (Nat.zero_le 4) ?_
    exact k_lo (lo' := [(0, .ref (L (5, d, 0))), (1, .int (nI n)), (2, .ref (L (ff, df, kf))), (3, .ref (L (16, d, n)))]) ⟨rfl, rfl, rfl, rfl, trivial⟩ (cont C L S N hX h11 kFr.rf (fun _ _ => rfl) hg rfl (by unfold nHold; rw [if_neg h11]))
end
section
/-- fields: one more writing -/
def sPut (S : kI4) (fS a b : Nat) (f x : Int32) : kI4 := if f = nI 0 then w4 (w4 S fS a b 0 x) fS a b 2 (S fS a b 2 + 1) else w4 (w4 S fS a b 1 x) fS a b 3 (S fS a b 3 + 1)
theorem sPut_n {S : kI4} {fS a b : Nat} {f x : Int32} {f' a' b' j : Nat} (z : ¬ (f' = fS ∧ a' = a ∧ b' = b)) : sPut S fS a b f x f' a' b' j = S f' a' b' j := by
  unfold sPut
  by_cases h : f = nI 0
  · rw [if_pos h, w4_n (by omega), w4_n (by omega)]
  · rw [if_neg h, w4_n (by omega), w4_n (by omega)]
theorem kF_put {S : kI4} {fS a b : Nat} {f x : Int32} : (some (.inr (3, if f = nI 0 then [.int x, .int (S fS a b 1), .int (S fS a b 2 + 1), .int (S fS a b 3)] else [.int (S fS a b 0), .int x, .int (S fS a b 2), .int (S fS a b 3 + 1)])) : Option va_E) = some (kF (sPut S fS a b f x) fS a b) := by
  unfold sPut
  by_cases h : f = nI 0
  · simp [kF, h, w4]
  · simp [kF, h, w4]
def sAct (S : kI4) (d k : Nat) (a b c e g : Int32) : kI4 := fun f' d' k' j => if f' = 11 ∧ d' = d ∧ k' = k then (if j = 0 then a else if j = 1 then b else if j = 2 then c else if j = 3 then e else g) else S f' d' k' j
theorem sAct_n {S : kI4} {d k : Nat} {a b c e g : Int32} {f' d' k' j : Nat} (z : ¬ (f' = 11 ∧ d' = d ∧ k' = k)) : sAct S d k a b c e g f' d' k' j = S f' d' k' j := if_neg z
theorem kAct_s {S : kI4} {d k : Nat} {a b c e g : Int32} : (some (.inr (1, [.int a, .int b, .int c, .int e, .int g])) : Option va_E) = some (kAct (sAct S d k a b c e g) d k) := by
  simp [kAct, sAct]
def sNum0 (S : kI4) (d k n : Nat) : kI4 := w4 (w4 S 9 d k 0 (nI n)) 7 d 0 0 (S 7 d 0 0 - nI 1)
def sNum (S : kI4) (d k n : Nat) : kI4 := sHold (sNum0 S d k n) d n (fun j => S 10 d k j)

set_option maxHeartbeats 4000000 in
set_option maxRecDepth 100000 in
theorem c_giveNumber {l : Launch} (htr : l.stackTraces = false) {E : kE} {A : Nat → Prop} {C : kC} {L : kL} {S : kI4} {N : kN3} (hX : isX E C L S N) (hO : okX S N) {d : Nat} (hd : d < 4) {k n : Nat} (hk : k < N 2 d 0) (hn : n < 40) : kM l yX1_giveNumber cX1_giveNumber 3 none 3 55 1 4 E A C L [.ref (L (5, d, 0)), .ref (L (17, d, k)), .int (nI n)] (fun v C' L' => v = none ∧ isX E C' L' (sNum S d k n) (nHold N d n) ∧ kFr C L C' L' ∧ ∀ t : kT, t.1 ≠ 16 → L' t = L t) := by
  refine kM.of htr (by decide) (Nat.le_of_ble_eq_true rfl) (fun Γ hl hR hN hnm X hE => ?_)
  refine k_lo (lo' := [(0, .ref (L (5, d, 0))), (1, .ref (L (17, d, k))), (2, .int (nI n))]) ⟨rfl, rfl, rfl, trivial⟩ ?_
  refine k_aload_n X dX1_giveNumber_0 rfl rfl ?_
  refine k_iload_n X dX1_giveNumber_1 rfl rfl ?_
  refine k_put1 X ((hX.2 d hd).2.2.2.2.2.2.2.1 k hk).1 (fs9 := [.int (nI n), .ref (L (18, d, k))]) (q := (RX4, TX4, 2)) rfl inlX4 tyX4 tyX4_ok nmX4 0 (by decide) kb_268 (Or.inl rfl) (Or.inl rfl) rfl rfl rfl (Nat.le_of_ble_eq_true rfl) rfl dX1_giveNumber_2 ?_
  refine k_abs (fun C' => isX E C' L (w4 S 9 d k 0 (nI n)) N ∧ kFr C L C' L) ⟨isX.m17 (kup_s.trans (by rw [w4_s])) hX (fun f d' k' z => kup_n (kneT z)) (fun _ _ _ _ => rfl) (fun f d' k' j z => w4_n (by omega)) (fun _ _ _ _ => rfl), kFr.rf.up (by decide)⟩ (fun C1 h1 => ?_)
  refine k_aload_n X dX1_giveNumber_5 rfl rfl ?_
  refine k_dup X dX1_giveNumber_6 rfl ?_
  refine k_get0 X (h1.1.2 d hd).1 (q := (RX1, TX1, 9)) rfl inlX1 5 (by decide) kb_45 (Or.inl rfl) rfl rfl dX1_giveNumber_7 ?_
  refine k_iconst (v := (nI 1)) X dX1_giveNumber_10 (by decide) ?_
  refine k_isub X dX1_giveNumber_11 ?_
  refine k_put1 X (h1.1.2 d hd).1 (fs9 := [.int ((w4 S 9 d k 0 (nI n)) 4 d 0 0), .ref (L (6, d, 0)), .ref (L (7, d, 0)), .int ((w4 S 9 d k 0 (nI n)) 6 d 0 0), .ref (L (8, d, 0)), .int (((w4 S 9 d k 0 (nI n)) 7 d 0 0) - (nI 1)), .ref (L (10, d, 0)), .int (nI (N 4 d 0)), .ref (L (12, d, 0))]) (q := (RX1, TX1, 9)) rfl inlX1 tyX1 tyX1_ok nmX1 5 (by decide) kb_45 (Or.inl rfl) (Or.inl rfl) rfl rfl rfl (Nat.le_of_ble_eq_true rfl) rfl dX1_giveNumber_12 ?_
  refine k_abs (fun C' => isX E C' L (sNum0 S d k n) N ∧ kFr C L C' L) ⟨isX.d5 (kup_s.trans (by simp [kDev, sNum0, w4])) h1.1 (fun f d' k' z => kup_n (kneD z)) (fun _ _ _ _ => rfl) (fun f d' k' j z => w4_n (by omega)) (fun _ _ _ _ => rfl), h1.2.up (by decide)⟩ (fun C2 h2 => ?_)
  refine k_aload_n X dX1_giveNumber_15 rfl rfl ?_
  refine k_iload_n X dX1_giveNumber_16 rfl rfl ?_
  refine k_aload_n X dX1_giveNumber_17 rfl rfl ?_
  refine k_get0 X ((h2.1.2 d hd).2.2.2.2.2.2.2.1 k hk).1 (q := (RX4, TX4, 2)) rfl inlX4 1 (by decide) kb_269 (Or.inl rfl) rfl rfl dX1_giveNumber_18 ?_
  refine k_callV (rest := []) X kv_X1_hold kb_359 (c_hold X.tr h2.1 hO hd hn (ff := 18) (df := d) (kf := k) (Or.inr rfl) (fun j => S 10 d k j) (((h2.1.2 d hd).2.2.2.2.2.2.2.1 k hk).2.trans (by simp [kF, sNum0, w4]))) (h2.1.2 d hd).1 rfl rfl rfl rfl rfl (Nat.le_of_ble_eq_true rfl) ⟨by rw [hR]; exact Nat.le_of_ble_eq_true rfl, by rw [hR]; exact Nat.le_of_ble_eq_true rfl⟩ ⟨by rw [hR]; exact Nat.le_of_ble_eq_true rfl, by rw [hR]; exact Nat.le_of_ble_eq_true rfl⟩ dX1_giveNumber_21 (fun v21 C9 L9 h9 => ?_)
  obtain ⟨rfl, hX3, hfr3, hL3⟩ := h9
  exact k_vret X hE dX1_giveNumber_24 (by first | omega | exact Nat.le_of_ble_eq_true rfl | (dsimp only; omega)) (by first | omega | exact Nat.le_of_ble_eq_true rfl | (dsimp only; omega)) ⟨rfl, hX3, h2.2.tr hfr3, hL3⟩

set_option maxHeartbeats 4000000 in
set_option maxRecDepth 100000 in
theorem c_takeAct {l : Launch} (htr : l.stackTraces = false) {E : kE} {A : Nat → Prop} {C : kC} {L : kL} {S : kI4} {N : kN3} (hX : isX E C L S N) (hO : okX S N) {d : Nat} (hd : d < 4)  : kM l yX1_takeAct cX1_takeAct 2 (some (.object "FieldStore$Act")) 3 64 0 0 E A C L [.ref (L (5, d, 0))] (fun v C' L' => ((N 4 d 0 < N 3 d 0 ∧ v = some (.ref (L (19, d, N 4 d 0))) ∧ isX E C' L S (w3 N 4 d 0 (N 4 d 0 + 1))) ∨ (N 3 d 0 ≤ N 4 d 0 ∧ v = some .null ∧ C = C')) ∧ L = L' ∧ kFr C L C' L) := by
  obtain ⟨vl8, hl8⟩ := (hX.2 d hd).2.2.2.1.hd
  obtain ⟨vl10, hl10⟩ := (hX.2 d hd).2.2.2.2.1.hd
  obtain ⟨vl12, hl12⟩ := (hX.2 d hd).2.2.2.2.2.1.hd
  have hb2 := (hO.2 d hd).1
  have hb3 := (hO.2 d hd).2.1
  have hb4 := (hO.2 d hd).2.2.1
  have hb5 := (hO.2 d hd).2.2.2.1
  refine kM.of htr (by decide) (Nat.le_of_ble_eq_true rfl) (fun Γ hl hR hN hnm X hE => ?_)
  refine k_lo (lo' := [(0, .ref (L (5, d, 0)))]) ⟨rfl, trivial⟩ ?_
  refine k_aload_n X dX1_takeAct_0 rfl rfl ?_
  refine k_get0 X (hX.2 d hd).1 (q := (RX1, TX1, 9)) rfl inlX1 7 (by decide) kb_47 (Or.inl rfl) rfl rfl dX1_takeAct_1 ?_
  refine k_if_lt (tgt := 21) X dX1_takeAct_4 (by decide) (fun c4 => absurd c4 (nI_pos (by omega))) (fun c4 => ?_)
  refine k_aload_n X dX1_takeAct_7 rfl rfl ?_
  refine k_get0 X (hX.2 d hd).1 (q := (RX1, TX1, 9)) rfl inlX1 7 (by decide) kb_47 (Or.inl rfl) rfl rfl dX1_takeAct_8 ?_
  refine k_aload_n X dX1_takeAct_11 rfl rfl ?_
  refine k_get0 X (hX.2 d hd).1 (q := (RX1, TX1, 9)) rfl inlX1 6 (by decide) kb_46 (Or.inl rfl) rfl rfl dX1_takeAct_12 ?_
  refine k_callV (rest := [.int (nI (N 4 d 0))]) X kv_Jx4a65c_size_8abf5 kb_275 (c_Ls_size X.tr (hX.2 d hd).2.2.2.2.1) hl10 rfl rfl rfl rfl rfl (Nat.le_of_ble_eq_true rfl) ⟨by rw [hR]; exact Nat.le_of_ble_eq_true rfl, by rw [hR]; exact Nat.le_of_ble_eq_true rfl⟩ ⟨by rw [hR]; exact Nat.le_of_ble_eq_true rfl, by rw [hR]; exact Nat.le_of_ble_eq_true rfl⟩ dX1_takeAct_15 (fun v15 C9 L9 h9 => ?_)
  obtain ⟨rfl, rfl, rfl⟩ := h9
  refine k_icmp_lt (tgt := 23) X dX1_takeAct_18 (by decide) (fun c18 => ?_) (fun c18 => ?_)
  ·
    refine k_aload_n X dX1_takeAct_23 rfl rfl ?_
    refine k_get0 X (hX.2 d hd).1 (q := (RX1, TX1, 9)) rfl inlX1 6 (by decide) kb_46 (Or.inl rfl) rfl rfl dX1_takeAct_24 ?_
    refine k_aload_n X dX1_takeAct_27 rfl rfl ?_
    refine k_get0 X (hX.2 d hd).1 (q := (RX1, TX1, 9)) rfl inlX1 7 (by decide) kb_47 (Or.inl rfl) rfl rfl dX1_takeAct_28 ?_
    have h34 : N 4 d 0 < N 3 d 0 := (nI_ltI (by omega) (by omega)).mp c18
    refine k_callV (rest := []) X kv_Jx4a65c_get_915e3 kb_276 (c_Ls_get X.tr (hX.2 d hd).2.2.2.2.1 (N 4 d 0) h34 (by omega)) hl10 rfl rfl rfl rfl rfl (Nat.le_of_ble_eq_true rfl) ⟨by rw [hR]; exact Nat.le_of_ble_eq_true rfl, by rw [hR]; exact Nat.le_of_ble_eq_true rfl⟩ ⟨by rw [hR]; exact Nat.le_of_ble_eq_true rfl, by rw [hR]; exact Nat.le_of_ble_eq_true rfl⟩ dX1_takeAct_31 (fun v31 C9 L9 h9 => ?_)
    obtain ⟨rfl, rfl, rfl⟩ := h9
    refine k_cast X ((hX.2 d hd).2.2.2.2.2.2.2.2 (N 4 d 0) h34) (r := (RX0, TX0, 5)) rfl rfl kb_285 dX1_takeAct_34 ?_
    refine k_astore_n X dX1_takeAct_37 rfl (by rw [hN]; decide) ?_
    refine k_aload_n X dX1_takeAct_38 rfl rfl ?_
    refine k_dup X dX1_takeAct_39 rfl ?_
    refine k_get0 X (hX.2 d hd).1 (q := (RX1, TX1, 9)) rfl inlX1 7 (by decide) kb_47 (Or.inl rfl) rfl rfl dX1_takeAct_40 ?_
    refine k_iconst (v := (nI 1)) X dX1_takeAct_43 (by decide) ?_
    refine k_iaddN X dX1_takeAct_44 ?_
    refine k_put1 X (hX.2 d hd).1 (fs9 := [.int (S 4 d 0 0), .ref (L (6, d, 0)), .ref (L (7, d, 0)), .int (S 6 d 0 0), .ref (L (8, d, 0)), .int (S 7 d 0 0), .ref (L (10, d, 0)), .int (nI ((N 4 d 0) + 1)), .ref (L (12, d, 0))]) (q := (RX1, TX1, 9)) rfl inlX1 tyX1 tyX1_ok nmX1 7 (by decide) kb_47 (Or.inl rfl) (Or.inl rfl) rfl rfl rfl (Nat.le_of_ble_eq_true rfl) rfl dX1_takeAct_45 ?_
    refine k_abs (fun C' => isX E C' L S (w3 N 4 d 0 (N 4 d 0 + 1)) ∧ kFr C L C' L) ⟨isX.d5 (kup_s.trans (by simp [kDev, w3])) hX (fun f d' k' z => kup_n (kneD z)) (fun _ _ _ _ => rfl) (fun _ _ _ _ _ => rfl) (fun f d' k' z => w3_n (by omega)), kFr.rf.up (by decide)⟩ (fun C1 h1 => ?_)
    refine k_aload_n X dX1_takeAct_48 rfl rfl ?_
    exact k_aret X hE (Or.inl ⟨_, rfl⟩) (Or.inr ⟨_, rfl⟩) dX1_takeAct_49 (by first | omega | exact Nat.le_of_ble_eq_true rfl | (dsimp only; omega)) (by first | omega | exact Nat.le_of_ble_eq_true rfl | (dsimp only; omega)) ⟨Or.inl ⟨h34, rfl, h1.1⟩, rfl, h1.2⟩
  ·
    refine k_null X dX1_takeAct_21 ?_
    exact k_aret X hE (Or.inl ⟨_, rfl⟩) (Or.inl rfl) dX1_takeAct_22 (by first | omega | exact Nat.le_of_ble_eq_true rfl | (dsimp only; omega)) (by first | omega | exact Nat.le_of_ble_eq_true rfl | (dsimp only; omega)) ⟨Or.inr ⟨Nat.le_of_not_lt fun z => c18 (nI_lt z (by omega)), rfl, rfl⟩, rfl, kFr.rf⟩

def nRef (N : kN3) (d k : Nat) : kN3 := w3 (w3 N 6 d (N 5 d 0) k) 5 d 0 (N 5 d 0 + 1)

theorem kn30 {t : kT} {f d k : Nat} (ht : 30 ≤ t.1) (hf : f < 30) : t ≠ (f, d, k) := fun e => by rw [e] at ht; exact absurd ht (by show ¬ 30 ≤ f; omega)

set_option maxHeartbeats 4000000 in
set_option maxRecDepth 100000 in
theorem c_refuse {l : Launch} (htr : l.stackTraces = false) {E : kE} {A : Nat → Prop} {C : kC} {L : kL} {S : kI4} {N : kN3} (hX : isX E C L S N) (hO : okX S N) {d : Nat} (hd : d < 4) {k : Nat} (hk : k < N 3 d 0) (r : Int32) : kM l yX1_refuse cX1_refuse 3 none 7 171 1 (10 + N 5 d 0 + N 5 d 0 / 2) E A C L [.ref (L (5, d, 0)), .ref (L (19, d, k)), .int r] (fun v C' L' => v = none ∧ isX E C' L' (w4 S 11 d k 4 r) (nRef N d k) ∧ kFr C L C' L' ∧ ∀ t : kT, t.1 ≠ 13 → L' t = L t) := by
  obtain ⟨vl8, hl8⟩ := (hX.2 d hd).2.2.2.1.hd
  obtain ⟨vl10, hl10⟩ := (hX.2 d hd).2.2.2.2.1.hd
  obtain ⟨vl12, hl12⟩ := (hX.2 d hd).2.2.2.2.2.1.hd
  have hb2 := (hO.2 d hd).1
  have hb3 := (hO.2 d hd).2.1
  have hb4 := (hO.2 d hd).2.2.1
  have hb5 := (hO.2 d hd).2.2.2.1
  have hb6 := (hO.2 d hd).2.2.2.2
  refine kM.of htr (by decide) (Nat.le_of_ble_eq_true rfl) (fun Γ hl hR hN hnm X hE => ?_)
  refine k_lo (lo' := [(0, .ref (L (5, d, 0))), (1, .ref (L (19, d, k))), (2, .int r)]) ⟨rfl, rfl, rfl, trivial⟩ ?_
  refine k_aload_n X dX1_refuse_0 rfl rfl ?_
  refine k_iload_n X dX1_refuse_1 rfl rfl ?_
  refine k_put1 X ((hX.2 d hd).2.2.2.2.2.2.2.2 k hk) (fs9 := [.int (S 11 d k 0), .int (S 11 d k 1), .int (S 11 d k 2), .int (S 11 d k 3), .int r]) (q := (RX0, TX0, 5)) rfl inlX0 tyX0 tyX0_ok nmX0 4 (by decide) kb_376 (Or.inl rfl) (Or.inl rfl) rfl rfl rfl (Nat.le_of_ble_eq_true rfl) rfl dX1_refuse_2 ?_
  refine k_abs (fun C' => isX E C' L (w4 S 11 d k 4 r) N ∧ kFr C L C' L) ⟨isX.a19 (kup_s.trans (by simp [kAct, w4])) hX (fun f d' k' z => kup_n (kneT z)) (fun _ _ _ _ => rfl) (fun f d' k' j z => w4_n (by omega)) (fun _ _ _ _ => rfl), kFr.rf.up (by decide)⟩ (fun C1 h1 => ?_)
  refine k_aload_n X dX1_refuse_5 rfl rfl ?_
  refine k_get0 X (h1.1.2 d hd).1 (q := (RX1, TX1, 9)) rfl inlX1 8 (by decide) kb_48 (Or.inl rfl) rfl rfl dX1_refuse_6 ?_
  refine k_aload_n X dX1_refuse_9 rfl rfl ?_
  obtain ⟨vl12, hl12⟩ := (h1.1.2 d hd).2.2.2.2.2.1.hd
  refine k_callV (rest := []) X kv_Jx4a65c_add_9ea2d kb_298 (c_Ls_addA X.tr (fh := 12) (fa := 13) (d := d) (ft := 19) (dt := d) (kt := k) (ci := 1) (r := (RX0, TX0, 5)) rfl rfl (h1.1.2 d hd).2.2.2.2.2.1 (by omega) h1.1.1.1.2 rfl (by simp [kCas]) ((h1.1.2 d hd).2.2.2.2.2.2.2.2 k hk) (by decide) (by decide) (by decide) (by decide) (by decide) (by decide) (fun i hi => ⟨19, d, N 6 d i, _, by decide, by decide, rfl, (h1.1.2 d hd).2.2.2.2.2.2.2.2 _ (hb6 i hi)⟩)) hl12 rfl rfl rfl rfl rfl (Nat.le_of_ble_eq_true rfl) ⟨by rw [hR]; exact Nat.le_of_ble_eq_true rfl, by rw [hR]; exact Nat.le_of_ble_eq_true rfl⟩ ⟨by rw [hR]; dsimp only; omega, by rw [hR]; dsimp only; omega⟩ dX1_refuse_10 (fun v10 C9 L9 h9 => ?_)
  obtain ⟨rfl, e1, e2, e3⟩ := h9
  refine k_pop X dX1_refuse_13 rfl ?_
  exact k_vret X hE dX1_refuse_14 (by first | omega | exact Nat.le_of_ble_eq_true rfl | (dsimp only; omega)) (by first | omega | exact Nat.le_of_ble_eq_true rfl | (dsimp only; omega)) ⟨rfl, isX.addR (d := d) (by refine e3 _ (fun j hj => ?_) ?_; { rw [show nRef N d k 6 d j = N 6 d j from (w3_n (by omega)).trans (w3_n (by omega))]; exact e2 _ (kne1 (by decide)) }; { rw [show nRef N d k 6 d (N 5 d 0) = k from (w3_n (by omega)).trans w3_s]; exact e2 _ (kne1 (by decide)) }) w3_s h1.1 (fun f d' k' z => e1 _ (kneD (by omega)) (kneD (by omega))) (fun f d' k' z => e2 _ (kneD (by omega))) (fun _ _ _ _ _ => rfl) (fun f d' k' z => (w3_n (by omega)).trans (w3_n (by omega))), fun t ht => ⟨(e1 t (kn30 ht (by decide)) (kn30 ht (by decide))).trans (h1.2 t ht).1, e2 t (kn30 ht (by decide))⟩, fun t ht => e2 t (fun e => ht (congrArg Prod.fst e))⟩
end
section
theorem c_X2_versionOfA {l : Launch} (htr : l.stackTraces = false) {E : kE} {A : Nat → Prop} {C : kC} {L : kL} {t : kT} {q0 : Nat} {a b c d : Int32} (f : Int32) (ha : L t = q0) (h : C t = some (.inr (3, [.int a, .int b, .int c, .int d]))) : kM l yX2_versionOf cX2_versionOf 2 (some .int) 0 0 0 0 E A C L [.ref q0, .int f] (fun v C' L' => v = some (.int (if f = nI 0 then c else d)) ∧ L = L' ∧ C = C') := by
  subst ha
  exact c_X2_versionOf htr f h
theorem c_X2_valueOfA {l : Launch} (htr : l.stackTraces = false) {E : kE} {A : Nat → Prop} {C : kC} {L : kL} {t : kT} {q0 : Nat} {a b c d : Int32} (f : Int32) (ha : L t = q0) (h : C t = some (.inr (3, [.int a, .int b, .int c, .int d]))) : kM l yX2_valueOf cX2_valueOf 2 (some .int) 0 0 0 0 E A C L [.ref q0, .int f] (fun v C' L' => v = some (.int (if f = nI 0 then a else b)) ∧ L = L' ∧ C = C') := by
  subst ha
  exact c_X2_valueOf htr f h
theorem c_X2_putA {l : Launch} (htr : l.stackTraces = false) {E : kE} {A : Nat → Prop} {C : kC} {L : kL} {t : kT} {q0 : Nat} {S : kI4} {fS a b : Nat} (f x : Int32) (ha : L t = q0) (h : C t = some (kF S fS a b)) : kM l yX2_put cX2_put 3 none 0 0 0 0 E A C L [.ref q0, .int f, .int x] (fun v C' L' => v = none ∧ L = L' ∧ C' = kup C t (some (kF (sPut S fS a b f x) fS a b))) := by
  subst ha
  rw [← kF_put]
  exact c_X2_put htr f x h
theorem isX.put {E : kE} {C : kC} {L : kL} {S : kI4} {N : kN3} {ff fS d kk : Nat} {f x : Int32} (hF : (ff = 16 ∧ fS = 8) ∨ (ff = 18 ∧ fS = 10)) (h : isX E C L S N) : isX E (kup C (ff, d, kk) (some (kF (sPut S fS d kk f x) fS d kk))) L (sPut S fS d kk f x) N := by
  rcases hF with ⟨rfl, rfl⟩ | ⟨rfl, rfl⟩
  · exact isX.f16 kup_s h (fun f d' k z => kup_n (kneT z)) (fun _ _ _ _ => rfl) (fun f d' k j z => sPut_n z) (fun _ _ _ _ => rfl)
  · exact isX.m18 kup_s h (fun f d' k z => kup_n (kneT z)) (fun _ _ _ _ => rfl) (fun f d' k j z => sPut_n z) (fun _ _ _ _ => rfl)
/-- where a device's fields lie: a copy's, or a made job's -/
def kFh (N : kN3) (d ff fS kk : Nat) : Prop := (ff = 16 ∧ fS = 8 ∧ N 11 d kk ≠ 0) ∨ (ff = 18 ∧ fS = 10 ∧ kk < N 2 d 0)
theorem kFh.at {E : kE} {C : kC} {L : kL} {S : kI4} {N : kN3} {ff fS d kk : Nat} (h : kFh N d ff fS kk) (hX : isX E C L S N) (hd : d < 4) : C (ff, d, kk) = some (kF S fS d kk) := by
  rcases h with ⟨rfl, rfl, h⟩ | ⟨rfl, rfl, h⟩
  · exact (hX.2 d hd).2.2.2.2.2.2.1 kk h
  · exact ((hX.2 d hd).2.2.2.2.2.2.2.1 kk h).2
theorem kFh.f {N : kN3} {ff fS d kk : Nat} (h : kFh N d ff fS kk) : (ff = 16 ∧ fS = 8) ∨ (ff = 18 ∧ fS = 10) := by
  rcases h with ⟨rfl, rfl, h⟩ | ⟨rfl, rfl, h⟩
  · exact Or.inl ⟨rfl, rfl⟩
  · exact Or.inr ⟨rfl, rfl⟩
theorem kFh.n {N : kN3} {ff fS d kk : Nat} (h : kFh N d ff fS kk) {f0 : Nat} (h0 : 16 ≠ f0 ∧ 18 ≠ f0) : ff ≠ f0 := by
  rcases h with ⟨rfl, rfl, h⟩ | ⟨rfl, rfl, h⟩
  · exact h0.1
  · exact h0.2
theorem okX.addA {S S' : kI4} {N : kN3} {d : Nat} (h : okX S N) (hn : N 3 d 0 < 512) : okX S' (w3 N 3 d 0 (N 3 d 0 + 1)) := by
  refine ⟨by rw [w3_n (by omega)]; exact h.1, fun d' hd' => ?_⟩
  have h2 := h.2 d' hd'
  rw [w3_n (show ¬ (2 = 3 ∧ _) by omega), w3_n (show ¬ (4 = 3 ∧ _) by omega), w3_n (show ¬ (5 = 3 ∧ _) by omega)]
  have h3 : N 3 d' 0 ≤ w3 N 3 d 0 (N 3 d 0 + 1) 3 d' 0 ∧ w3 N 3 d 0 (N 3 d 0 + 1) 3 d' 0 ≤ 512 := by
    by_cases e : d' = d
    · subst e
      rw [w3_s]
      omega
    · rw [w3_n (by omega)]
      omega
  exact ⟨h2.1, h3.2, Nat.le_trans h2.2.2.1 h3.1, h2.2.2.2.1, fun i hi => by rw [w3_n (by omega)]; exact Nat.lt_of_lt_of_le (h2.2.2.2.2 i hi) h3.1⟩

theorem kn19 {t : kT} {d k : Nat} (h : t.1 ≠ 19) : t ≠ (19, d, k) := fun e => h (congrArg Prod.fst e)

set_option maxHeartbeats 4000000 in
set_option maxRecDepth 100000 in
theorem c_changeJob {l : Launch} (htr : l.stackTraces = false) {E : kE} {A : Nat → Prop} {C : kC} {L : kL} {S : kI4} {N : kN3} (hX : isX E C L S N) (hO : okX S N) {d : Nat} (hd : d < 4) {ff fS kk : Nat} (hf : kFh N d ff fS kk) (hn5 : N 3 d 0 < 512) (job f x : Int32) : kM l yX1_changeJob cX1_changeJob 5 none 7 171 2 800 E A C L [.ref (L (5, d, 0)), .int job, .ref (L (ff, d, kk)), .int f, .int x] (fun v C' L' => v = none ∧ isX E C' L' (sPut (sAct S d (N 3 d 0) job f x (if f = nI 0 then S fS d kk 2 else S fS d kk 3) (-1)) fS d kk f x) (w3 N 3 d 0 (N 3 d 0 + 1)) ∧ kFr C L C' L' ∧ ∀ t : kT, t.1 ≤ 10 → L' t = L t) := by
  obtain ⟨vl8, hl8⟩ := (hX.2 d hd).2.2.2.1.hd
  obtain ⟨vl10, hl10⟩ := (hX.2 d hd).2.2.2.2.1.hd
  obtain ⟨vl12, hl12⟩ := (hX.2 d hd).2.2.2.2.2.1.hd
  have hb2 := (hO.2 d hd).1
  have hb3 := (hO.2 d hd).2.1
  have hb4 := (hO.2 d hd).2.2.1
  have hb5 := (hO.2 d hd).2.2.2.1
  have hb6 := (hO.2 d hd).2.2.2.2
  have hc9 := hf.at hX hd
  refine kM.of htr (by decide) (Nat.le_of_ble_eq_true rfl) (fun Γ hl hR hN hnm X hE => ?_)
  refine k_lo (lo' := [(0, .ref (L (5, d, 0))), (1, .int job), (2, .ref (L (ff, d, kk))), (3, .int f), (4, .int x)]) ⟨rfl, rfl, rfl, rfl, rfl, trivial⟩ ?_
  refine k_aload_n X dX1_changeJob_0 rfl rfl ?_
  refine k_get0 X (hX.2 d hd).1 (q := (RX1, TX1, 9)) rfl inlX1 6 (by decide) kb_46 (Or.inl rfl) rfl rfl dX1_changeJob_1 ?_
  refine k_new0 X (19, d, N 3 d 0) (ci := 1) (q := (RX0, TX0, 5)) rfl inlX0 tyX0 tyX0_ok kb_285 kb_286 kb_287 (fs := [.int 0, .int 0, .int 0, .int 0, .int 0]) (fun j hj => by rcases (show j = 0 ∨ j = 1 ∨ j = 2 ∨ j = 3 ∨ j = 4 from by have : j < 5 := hj; omega) with rfl | rfl | rfl | rfl | rfl <;> rfl) dX1_changeJob_4 (by rw [hR]; dsimp only; omega) (by rw [hR]; dsimp only; omega) (fun q9 => ?_)
  refine k_dup X dX1_changeJob_7 rfl ?_
  refine k_iload_n X dX1_changeJob_8 rfl rfl ?_
  refine k_iload_n X dX1_changeJob_9 rfl rfl ?_
  refine k_iload X dX1_changeJob_10 rfl ?_
  refine k_aload_n X dX1_changeJob_12 rfl rfl ?_
  refine k_iload_n X dX1_changeJob_13 rfl rfl ?_
  refine k_callV (rest := [.int x, .int f, .int job, .ref q9, .ref q9, .ref (L (10, d, 0))]) X kv_X2_versionOf kb_288 (c_X2_versionOfA X.tr f (t := (ff, d, kk)) (kup_n (kne1 (hf.n ⟨by decide, by decide⟩))) ((kup_n (kne1 (hf.n ⟨by decide, by decide⟩))).trans hc9)) ((kup_n (kne1 (hf.n ⟨by decide, by decide⟩))).trans hc9) rfl rfl (kup_n (kne1 (hf.n ⟨by decide, by decide⟩))) rfl rfl (Nat.le_of_ble_eq_true rfl) ⟨by rw [hR]; exact Nat.le_of_ble_eq_true rfl, by rw [hR]; exact Nat.le_of_ble_eq_true rfl⟩ ⟨by rw [hR]; dsimp only; omega, by rw [hR]; dsimp only; omega⟩ dX1_changeJob_14 (fun v14 C9 L9 h9 => ?_)
  obtain ⟨rfl, rfl, rfl⟩ := h9
  refine k_callI (rest := [.ref q9, .ref (L (10, d, 0))]) X ki_X0_init kb_289 (c_X0_initA X.tr (t := (19, d, N 3 d 0)) (a := 0) (b := 0) (c := 0) (d := 0) (e := 0) job f x (if f = nI 0 then S fS d kk 2 else S fS d kk 3) kup_s kup_s) rfl rfl (Nat.le_of_ble_eq_true rfl) ⟨by rw [hR]; exact Nat.le_of_ble_eq_true rfl, by rw [hR]; exact Nat.le_of_ble_eq_true rfl⟩ ⟨by rw [hR]; dsimp only; omega, by rw [hR]; dsimp only; omega⟩ dX1_changeJob_17 (fun v17 C9 L9 h9 => ?_)
  obtain ⟨rfl, rfl, rfl⟩ := h9
  refine k_C (kup_kup).symm ?_
  obtain ⟨vl10b, hl10b⟩ := (hX.2 d hd).2.2.2.2.1.hd
  refine k_callV (rest := []) X kv_Jx4a65c_add_9ea2d kb_298 (c_Ls_addA X.tr (fh := 10) (fa := 11) (d := d) (ft := 19) (dt := d) (kt := N 3 d 0) (ci := 1) (r := (RX0, TX0, 5)) ((kup_n (kne1 (by decide))).trans rfl) kup_s ((hX.2 d hd).2.2.2.2.1.keep (kup_n (kne1 (by decide))) (kup_n (kne1 (by decide))) (kup_n (kne1 (by decide))) (fun j hj => kup_n (kne3 (by omega)))) (by omega) ((kup_n (kne1 (by decide))).trans hX.1.1.2) rfl (by simp [kCas]) kup_s (by decide) (by decide) (by decide) (by decide) (by decide) (by decide) (fun i hi => ⟨19, d, i, _, by decide, by decide, rfl, (kup_n (kne3 (by omega))).trans ((hX.2 d hd).2.2.2.2.2.2.2.2 i hi)⟩)) ((kup_n (kne1 (by decide))).trans hl10b) rfl rfl ((kup_n (kne1 (by decide))).trans rfl) rfl rfl (Nat.le_of_ble_eq_true rfl) ⟨by rw [hR]; exact Nat.le_of_ble_eq_true rfl, by rw [hR]; exact Nat.le_of_ble_eq_true rfl⟩ ⟨by rw [hR]; dsimp only; omega, by rw [hR]; dsimp only; omega⟩ dX1_changeJob_20 (fun v20 C9 L9 h9 => ?_)
  obtain ⟨rfl, e1, e2, e3⟩ := h9
  refine k_abs2 (fun C' L' => isX E C' L' (sAct S d (N 3 d 0) job f x (if f = nI 0 then S fS d kk 2 else S fS d kk 3) (-1)) (w3 N 3 d 0 (N 3 d 0 + 1)) ∧ (∀ t : kT, t.1 ≠ 10 → t.1 ≠ 11 → t.1 ≠ 19 → C' t = C t) ∧ (∀ t : kT, t.1 ≠ 11 → t.1 ≠ 19 → L' t = L t)) ⟨isX.addA (d := d) (e3 _ (fun j hj => e2 _ (kne1 (by decide))) ((e2 _ (kne1 (by decide))).trans kup_s)) w3_s ((e1 _ (kne1 (by decide)) (kne1 (by decide))).trans (kup_s.trans kAct_s)) hb6 hX (fun f d' k z => (e1 _ (kneD (by omega)) (kneD (by omega))).trans (kup_n (kneT (by omega)))) (fun f d' k z => (e2 _ (kneD (by omega))).trans (kup_n (kneT (by omega)))) (fun f d' k j z => sAct_n z) (fun f d' k z => w3_n (by omega)), fun t h1 h2 h3 => (e1 t (fun e => h1 (congrArg Prod.fst e)) (fun e => h2 (congrArg Prod.fst e))).trans (kup_n (fun e => h3 (congrArg Prod.fst e))), fun t h2 h3 => (e2 t (fun e => h2 (congrArg Prod.fst e))).trans (kup_n (fun e => h3 (congrArg Prod.fst e)))⟩ (fun C3 L3 h3 => ?_)
  obtain ⟨hX3, hC3, hL3⟩ := h3
  refine k_pop X dX1_changeJob_23 rfl ?_
  refine k_aload_n X dX1_changeJob_24 rfl rfl ?_
  refine k_iload_n X dX1_changeJob_25 rfl rfl ?_
  refine k_iload X dX1_changeJob_26 rfl ?_
  have hc8 : C3 (ff, d, kk) = some (kF (sAct S d (N 3 d 0) job f x (if f = nI 0 then S fS d kk 2 else S fS d kk 3) (-1)) fS d kk) := by
    rw [hC3 (ff, d, kk) (hf.n ⟨by decide, by decide⟩) (hf.n ⟨by decide, by decide⟩) (hf.n ⟨by decide, by decide⟩), hc9]
    have h11 : ¬ (fS = 11 ∧ d = d ∧ kk = N 3 d 0) := by rcases hf.f with z | z <;> omega
    simp only [kF, sAct_n h11]
  refine k_callV (rest := []) X kv_X2_put kb_299 (c_X2_putA X.tr f x (t := (ff, d, kk)) (hL3 (ff, d, kk) (hf.n ⟨by decide, by decide⟩) (hf.n ⟨by decide, by decide⟩)) hc8) hc8 rfl rfl (hL3 (ff, d, kk) (hf.n ⟨by decide, by decide⟩) (hf.n ⟨by decide, by decide⟩)) rfl rfl (Nat.le_of_ble_eq_true rfl) ⟨by rw [hR]; exact Nat.le_of_ble_eq_true rfl, by rw [hR]; exact Nat.le_of_ble_eq_true rfl⟩ ⟨by rw [hR]; dsimp only; omega, by rw [hR]; dsimp only; omega⟩ dX1_changeJob_28 (fun v28 C9 L9 h9 => ?_)
  obtain ⟨rfl, rfl, rfl⟩ := h9
  exact k_vret X hE dX1_changeJob_31 (by first | omega | exact Nat.le_of_ble_eq_true rfl | (dsimp only; omega)) (by first | omega | exact Nat.le_of_ble_eq_true rfl | (dsimp only; omega)) ⟨rfl, hX3.put hf.f, fun t ht => ⟨(kup_n (fun e => by rw [e] at ht; rcases hf.f with z | z <;> exact absurd ht (by show ¬ 30 ≤ ff; omega))).trans (hC3 t (by omega) (by omega) (by omega)), hL3 t (by omega) (by omega)⟩, fun t ht => hL3 t (by omega) (by omega)⟩
end
section
def sMk (S : kI4) (d m : Nat) : kI4 := fun f' d' k' j => if f' = 9 ∧ d' = d ∧ k' = m then -1 else if f' = 10 ∧ d' = d ∧ k' = m then nI 0 else S f' d' k' j
theorem sMk_n {S : kI4} {d m f' d' k' j : Nat} (z : ¬ ((f' = 9 ∨ f' = 10) ∧ d' = d ∧ k' = m)) : sMk S d m f' d' k' j = S f' d' k' j := by
  unfold sMk
  rw [if_neg (by omega), if_neg (by omega)]
def sMk1 (S : kI4) (d m : Nat) : kI4 := w4 (sMk S d m) 7 d 0 0 (S 7 d 0 0 + nI 1)
def sMake (S : kI4) (N : kN3) (d : Nat) (x : Int32) : kI4 := sAct (sMk1 S d (N 2 d 0)) d (N 3 d 0) (nI (1000 + N 2 d 0)) (-1) x (nI 0) (-1)
def nMk (N : kN3) (d : Nat) : kN3 := w3 N 2 d 0 (N 2 d 0 + 1)
def nMake (N : kN3) (d : Nat) : kN3 := w3 (nMk N d) 3 d 0 (N 3 d 0 + 1)

set_option maxHeartbeats 4000000 in
set_option maxRecDepth 100000 in
theorem c_makeJob {l : Launch} (htr : l.stackTraces = false) {E : kE} {A : Nat → Prop} {C : kC} {L : kL} {S : kI4} {N : kN3} (hX : isX E C L S N) (hO : okX S N) {d : Nat} (hd : d < 4) (hn2 : N 2 d 0 < 512) (hn3 : N 3 d 0 < 512) (x : Int32) : kM l yX1_makeJob cX1_makeJob 3 (some .int) 7 171 5 1600 E A C L [.ref (L (5, d, 0)), .int x] (fun v C' L' => v = some (.int (nI (1000 + N 2 d 0))) ∧ isX E C' L' (sMake S N d x) (nMake N d) ∧ kFr C L C' L' ∧ ∀ t : kT, t.1 ≤ 8 → L' t = L t) := by
  obtain ⟨vl8, hl8⟩ := (hX.2 d hd).2.2.2.1.hd
  obtain ⟨vl10, hl10⟩ := (hX.2 d hd).2.2.2.2.1.hd
  obtain ⟨vl12, hl12⟩ := (hX.2 d hd).2.2.2.2.2.1.hd
  have hb2 := (hO.2 d hd).1
  have hb3 := (hO.2 d hd).2.1
  have hb4 := (hO.2 d hd).2.2.1
  have hb5 := (hO.2 d hd).2.2.2.1
  have hb6 := (hO.2 d hd).2.2.2.2
  refine kM.of htr (by decide) (Nat.le_of_ble_eq_true rfl) (fun Γ hl hR hN hnm X hE => ?_)
  refine k_lo (lo' := [(0, .ref (L (5, d, 0))), (1, .int x)]) ⟨rfl, rfl, trivial⟩ ?_
  refine k_sipush (v := (nI 1000)) X dX1_makeJob_0 (by decide) ?_
  refine k_aload_n X dX1_makeJob_3 rfl rfl ?_
  refine k_get0 X (hX.2 d hd).1 (q := (RX1, TX1, 9)) rfl inlX1 4 (by decide) kb_44 (Or.inl rfl) rfl rfl dX1_makeJob_4 ?_
  refine k_callV (rest := [.int (nI 1000)]) X kv_Jx4a65c_size_8abf5 kb_275 (c_Ls_size X.tr (hX.2 d hd).2.2.2.1) hl8 rfl rfl rfl rfl rfl (Nat.le_of_ble_eq_true rfl) ⟨by rw [hR]; exact Nat.le_of_ble_eq_true rfl, by rw [hR]; exact Nat.le_of_ble_eq_true rfl⟩ ⟨by rw [hR]; dsimp only; omega, by rw [hR]; dsimp only; omega⟩ dX1_makeJob_7 (fun v7 C9 L9 h9 => ?_)
  obtain ⟨rfl, rfl, rfl⟩ := h9
  refine k_iaddN X dX1_makeJob_10 ?_
  refine k_istore_n X dX1_makeJob_11 rfl (by rw [hN]; decide) ?_
  refine k_aload_n X dX1_makeJob_12 rfl rfl ?_
  refine k_get0 X (hX.2 d hd).1 (q := (RX1, TX1, 9)) rfl inlX1 4 (by decide) kb_44 (Or.inl rfl) rfl rfl dX1_makeJob_13 ?_
  refine k_new0 X (17, d, N 2 d 0) (ci := 5) (q := (RX4, TX4, 2)) rfl inlX4 tyX4 tyX4_ok kb_315 kb_316 kb_317 (fs := [.int 0, .null]) (fun j hj => by rcases (show j = 0 ∨ j = 1 from by have : j < 2 := hj; omega) with rfl | rfl <;> rfl) dX1_makeJob_16 (by rw [hR]; dsimp only; omega) (by rw [hR]; dsimp only; omega) (fun q9 => ?_)
  refine k_dup X dX1_makeJob_19 rfl ?_
  refine k_callIN (rest := [.ref q9, .ref (L (8, d, 0))]) X ki_X4_init (host := RX5) (by decide +kernel) (c_X4_init X.tr (t := (17, d, N 2 d 0)) (tF := (18, d, N 2 d 0)) (kne1 (by decide)) kup_s kup_s) rfl rfl (Nat.le_of_ble_eq_true rfl) ⟨by rw [hR]; exact Nat.le_of_ble_eq_true rfl, by rw [hR]; exact Nat.le_of_ble_eq_true rfl⟩ ⟨by rw [hR]; dsimp only; omega, by rw [hR]; dsimp only; omega⟩ dX1_makeJob_20 (fun v20 C9 L9 h9 => ?_)
  obtain ⟨q8, rfl, rfl, i1, i2, i3⟩ := h9
  have hCk : ∀ t : kT, t ≠ (17, d, N 2 d 0) → t ≠ (18, d, N 2 d 0) → C9 t = C t := fun t h1 h2 => (i3 t h1 h2).trans (kup_n h1)
  have hLk : ∀ t : kT, t ≠ (17, d, N 2 d 0) → t ≠ (18, d, N 2 d 0) → kup (kup L (17, d, N 2 d 0) q9) (18, d, N 2 d 0) q8 t = L t := fun t h1 h2 => (kup_n h2).trans (kup_n h1)
  have hq9 : kup (kup L (17, d, N 2 d 0) q9) (18, d, N 2 d 0) q8 (17, d, N 2 d 0) = q9 := (kup_n (kne1 (by decide))).trans kup_s
  refine k_callV (rest := []) X kv_Jx4a65c_add_9ea2d kb_298 (c_Ls_addA X.tr (fh := 8) (fa := 9) (d := d) (ft := 17) (dt := d) (kt := N 2 d 0) (ci := 5) (r := (RX4, TX4, 2)) (hLk _ (kne1 (by decide)) (kne1 (by decide))) hq9 ((hX.2 d hd).2.2.2.1.keep (hCk _ (kne1 (by decide)) (kne1 (by decide))) (hCk _ (kne1 (by decide)) (kne1 (by decide))) (hLk _ (kne1 (by decide)) (kne1 (by decide))) (fun j hj => hLk (17, d, j) (kne3 (by omega)) (kne1 (by decide)))) (by omega) ((hCk _ (kne1 (by decide)) (kne1 (by decide))).trans hX.1.1.2) rfl (by simp [kCas]) i1 (by decide) (by decide) (by decide) (by decide) (by decide) (by decide) (fun i hi => ⟨17, d, i, _, by decide, by decide, rfl, (hCk _ (kne3 (by omega)) (kne1 (by decide))).trans ((hX.2 d hd).2.2.2.2.2.2.2.1 i hi).1⟩)) ((hCk _ (kne1 (by decide)) (kne1 (by decide))).trans hl8) rfl rfl (hLk _ (kne1 (by decide)) (kne1 (by decide))) rfl rfl (Nat.le_of_ble_eq_true rfl) ⟨by rw [hR]; exact Nat.le_of_ble_eq_true rfl, by rw [hR]; exact Nat.le_of_ble_eq_true rfl⟩ ⟨by rw [hR]; dsimp only; omega, by rw [hR]; dsimp only; omega⟩ dX1_makeJob_23 (fun v23 C9 L9 h9 => ?_)
  obtain ⟨rfl, e1, e2, e3⟩ := h9
  refine k_abs2 (fun C' L' => isX E C' L' (sMk S d (N 2 d 0)) (nMk N d) ∧ (∀ t : kT, t.1 ≠ 8 → t.1 ≠ 9 → t.1 ≠ 17 → t.1 ≠ 18 → C' t = C t) ∧ (∀ t : kT, t.1 ≠ 9 → t.1 ≠ 17 → t.1 ≠ 18 → L' t = L t)) ⟨isX.addM (d := d) (e3 _ (fun j hj => e2 _ (kne1 (by decide))) ((e2 _ (kne1 (by decide))).trans hq9)) w3_s ((e1 _ (kne1 (by decide)) (kne1 (by decide))).trans (i1.trans ?_)) ((e1 _ (kne1 (by decide)) (kne1 (by decide))).trans (i2.trans (by simp [kF, sMk]))) hX (fun f d' k z => (e1 _ (kneD (by omega)) (kneD (by omega))).trans (hCk _ (kneT (by omega)) (kneT (by omega)))) (fun f d' k z => (e2 _ (kneD (by omega))).trans (hLk _ (kneT (by omega)) (kneT (by omega)))) (fun f d' k j z => sMk_n z) (fun f d' k z => w3_n (by omega)), fun t h1 h2 h3 h4 => (e1 t (fun e => h1 (congrArg Prod.fst e)) (fun e => h2 (congrArg Prod.fst e))).trans (hCk t (fun e => h3 (congrArg Prod.fst e)) (fun e => h4 (congrArg Prod.fst e))), fun t h2 h3 h4 => (e2 t (fun e => h2 (congrArg Prod.fst e))).trans (hLk t (fun e => h3 (congrArg Prod.fst e)) (fun e => h4 (congrArg Prod.fst e)))⟩ (fun C1 L1 h1 => ?_)
  · rw [e2 (18, d, N 2 d 0) (kne1 (by decide)), kup_s]
    simp [sMk]
  obtain ⟨hX1, hC1, hL1⟩ := h1
  refine k_pop X dX1_makeJob_26 rfl ?_
  refine k_aload_n X dX1_makeJob_27 rfl rfl ?_
  refine k_dup X dX1_makeJob_28 rfl ?_
  refine k_get0 X (hX1.2 d hd).1 (q := (RX1, TX1, 9)) rfl inlX1 5 (by decide) kb_45 (Or.inl rfl) (hL1 (5, d, 0) (show (5 : Nat) ≠ 9 by decide) (show (5 : Nat) ≠ 17 by decide) (show (5 : Nat) ≠ 18 by decide)) rfl dX1_makeJob_29 ?_
  refine k_iconst (v := (nI 1)) X dX1_makeJob_32 (by decide) ?_
  refine k_iadd X dX1_makeJob_33 ?_
  refine k_put1 X (hX1.2 d hd).1 (fs9 := [.int ((sMk S d (N 2 d 0)) 4 d 0 0), .ref (L1 (6, d, 0)), .ref (L1 (7, d, 0)), .int ((sMk S d (N 2 d 0)) 6 d 0 0), .ref (L1 (8, d, 0)), .int (((sMk S d (N 2 d 0)) 7 d 0 0) + (nI 1)), .ref (L1 (10, d, 0)), .int (nI ((nMk N d) 4 d 0)), .ref (L1 (12, d, 0))]) (q := (RX1, TX1, 9)) rfl inlX1 tyX1 tyX1_ok nmX1 5 (by decide) kb_45 (Or.inl rfl) (Or.inl rfl) (hL1 (5, d, 0) (show (5 : Nat) ≠ 9 by decide) (show (5 : Nat) ≠ 17 by decide) (show (5 : Nat) ≠ 18 by decide)) rfl rfl (Nat.le_of_ble_eq_true rfl) rfl dX1_makeJob_34 ?_
  refine k_abs (fun C' => isX E C' L1 (sMk1 S d (N 2 d 0)) (nMk N d) ∧ (∀ t : kT, t.1 ≠ 5 → C' t = C1 t)) ⟨isX.d5 (kup_s.trans (by simp [kDev, sMk1, sMk, w4])) hX1 (fun f d' k z => kup_n (kneD z)) (fun _ _ _ _ => rfl) (fun f d' k j z => w4_n (by omega)) (fun _ _ _ _ => rfl), fun t h1 => kup_n (fun e => h1 (congrArg Prod.fst e))⟩ (fun C2 h2 => ?_)
  refine k_aload_n X dX1_makeJob_37 rfl rfl ?_
  refine k_get0 X (h2.1.2 d hd).1 (q := (RX1, TX1, 9)) rfl inlX1 6 (by decide) kb_46 (Or.inl rfl) (hL1 (5, d, 0) (show (5 : Nat) ≠ 9 by decide) (show (5 : Nat) ≠ 17 by decide) (show (5 : Nat) ≠ 18 by decide)) rfl dX1_makeJob_38 ?_
  refine k_new0 X (19, d, N 3 d 0) (ci := 1) (q := (RX0, TX0, 5)) rfl inlX0 tyX0 tyX0_ok kb_285 kb_286 kb_287 (fs := [.int 0, .int 0, .int 0, .int 0, .int 0]) (fun j hj => by rcases (show j = 0 ∨ j = 1 ∨ j = 2 ∨ j = 3 ∨ j = 4 from by have : j < 5 := hj; omega) with rfl | rfl | rfl | rfl | rfl <;> rfl) dX1_makeJob_41 (by rw [hR]; dsimp only; omega) (by rw [hR]; dsimp only; omega) (fun q7 => ?_)
  refine k_dup X dX1_makeJob_44 rfl ?_
  refine k_iload_n X dX1_makeJob_45 rfl rfl ?_
  refine k_iconst (v := (-1)) X dX1_makeJob_46 (by decide) ?_
  refine k_iload_n X dX1_makeJob_47 rfl rfl ?_
  refine k_iconst (v := (nI 0)) X dX1_makeJob_48 (by decide) ?_
  refine k_callI (rest := [.ref q7, .ref (L1 (10, d, 0))]) X ki_X0_init kb_289 (c_X0_initA X.tr (t := (19, d, N 3 d 0)) (a := 0) (b := 0) (c := 0) (d := 0) (e := 0) (nI (1000 + (N 2 d 0))) (-1) x (nI 0) kup_s kup_s) rfl rfl (Nat.le_of_ble_eq_true rfl) ⟨by rw [hR]; exact Nat.le_of_ble_eq_true rfl, by rw [hR]; exact Nat.le_of_ble_eq_true rfl⟩ ⟨by rw [hR]; dsimp only; omega, by rw [hR]; dsimp only; omega⟩ dX1_makeJob_49 (fun v49 C9 L9 h9 => ?_)
  obtain ⟨rfl, rfl, rfl⟩ := h9
  refine k_C (kup_kup).symm ?_
  have n3 : nMk N d 3 d 0 = N 3 d 0 := w3_n (by omega)
  have kl10 := (h2.1.2 d hd).2.2.2.2.1
  rw [n3] at kl10
  obtain ⟨vl10b, hl10b⟩ := kl10.hd
  refine k_callV (rest := []) X kv_Jx4a65c_add_9ea2d kb_298 (c_Ls_addA X.tr (fh := 10) (fa := 11) (d := d) (ft := 19) (dt := d) (kt := N 3 d 0) (ci := 1) (r := (RX0, TX0, 5)) (kup_n (kne1 (by decide))) kup_s (kl10.keep (kup_n (kne1 (by decide))) (kup_n (kne1 (by decide))) (kup_n (kne1 (by decide))) (fun j hj => kup_n (kne3 (by omega)))) (by omega) ((kup_n (kne1 (by decide))).trans h2.1.1.1.2) rfl (by simp [kCas]) kup_s (by decide) (by decide) (by decide) (by decide) (by decide) (by decide) (fun i hi => ⟨19, d, i, _, by decide, by decide, rfl, (kup_n (kne3 (by omega))).trans ((h2.1.2 d hd).2.2.2.2.2.2.2.2 i (by rw [n3]; exact hi))⟩)) ((kup_n (kne1 (by decide))).trans hl10b) rfl rfl (kup_n (kne1 (by decide))) rfl rfl (Nat.le_of_ble_eq_true rfl) ⟨by rw [hR]; exact Nat.le_of_ble_eq_true rfl, by rw [hR]; exact Nat.le_of_ble_eq_true rfl⟩ ⟨by rw [hR]; dsimp only; omega, by rw [hR]; dsimp only; omega⟩ dX1_makeJob_52 (fun v52 C9 L9 h9 => ?_)
  obtain ⟨rfl, e1, e2, e3⟩ := h9
  refine k_pop X dX1_makeJob_55 rfl ?_
  refine k_iload_n X dX1_makeJob_56 rfl rfl ?_
  exact k_iret X hE dX1_makeJob_57 (by first | omega | exact Nat.le_of_ble_eq_true rfl | (dsimp only; omega)) (by first | omega | exact Nat.le_of_ble_eq_true rfl | (dsimp only; omega)) ⟨rfl, isX.addA (d := d) (by rw [n3]; exact e3 _ (fun j hj => e2 _ (kne1 (by decide))) ((e2 _ (kne1 (by decide))).trans kup_s)) (by rw [n3]; exact w3_s) (by rw [n3]; exact (e1 _ (kne1 (by decide)) (kne1 (by decide))).trans (kup_s.trans kAct_s)) (fun i hi => by rw [n3]; rw [show nMk N d 6 d i = N 6 d i from w3_n (by omega)]; rw [show nMk N d 5 d 0 = N 5 d 0 from w3_n (by omega)] at hi; exact hb6 i hi) h2.1 (fun f d' k z => by rw [n3] at z; exact (e1 _ (kneD (by omega)) (kneD (by omega))).trans (kup_n (kneT (by omega)))) (fun f d' k z => by rw [n3] at z; exact (e2 _ (kneD (by omega))).trans (kup_n (kneT (by omega)))) (fun f d' k j z => by rw [n3] at z; exact sAct_n z) (fun f d' k z => w3_n (by omega)), fun t ht => ⟨(e1 t (kn30 ht (by decide)) (kn30 ht (by decide))).trans ((kup_n (kn30 ht (by decide))).trans ((h2.2 t (by omega)).trans (hC1 t (by omega) (by omega) (by omega) (by omega)))), (e2 t (kn30 ht (by decide))).trans ((kup_n (kn30 ht (by decide))).trans (hL1 t (by omega) (by omega) (by omega)))⟩, fun t ht => (e2 t (fun e => by rw [e] at ht; exact absurd ht (by show ¬ (11 : Nat) ≤ 8; decide))).trans ((kup_n (fun e => by rw [e] at ht; exact absurd ht (by show ¬ (19 : Nat) ≤ 8; decide))).trans (hL1 t (by omega) (by omega) (by omega)))⟩
end
section
set_option maxHeartbeats 4000000 in
set_option maxRecDepth 100000 in
theorem c_jobs {l : Launch} (htr : l.stackTraces = false) {E : kE} {A : Nat → Prop} {C : kC} {L : kL} {S : kI4} {N : kN3} (hX : isX E C L S N) (hO : okX S N)  : kM l yX5_jobs cX5_jobs 1 (some .int) 1 20 0 0 E A C L [.ref (L (1, 0, 0))] (fun v C' L' => v = some (.int (nI (N 1 0 0))) ∧ L = L' ∧ C = C') := by
  obtain ⟨vl2, hl2⟩ := hX.1.2.1.hd
  have hb1 := hO.1
  refine kM.of htr (by decide) (Nat.le_of_ble_eq_true rfl) (fun Γ hl hR hN hnm X hE => ?_)
  refine k_lo (lo' := [(0, .ref (L (1, 0, 0)))]) ⟨rfl, trivial⟩ ?_
  refine k_aload_n X dX5_jobs_0 rfl rfl ?_
  refine k_get0 X hX.1.1.1 (q := (RX5, TX5, 3)) rfl inlX5 0 (by decide) kb_13 (Or.inl rfl) rfl rfl dX5_jobs_1 ?_
  refine k_callV (rest := []) X kv_Jx4a65c_size_8abf5 kb_63 (c_Ls_size X.tr hX.1.2.1) hl2 rfl rfl rfl rfl rfl (Nat.le_of_ble_eq_true rfl) ⟨by rw [hR]; exact Nat.le_of_ble_eq_true rfl, by rw [hR]; exact Nat.le_of_ble_eq_true rfl⟩ ⟨by rw [hR]; exact Nat.le_of_ble_eq_true rfl, by rw [hR]; exact Nat.le_of_ble_eq_true rfl⟩ dX5_jobs_4 (fun v4 C9 L9 h9 => ?_)
  obtain ⟨rfl, rfl, rfl⟩ := h9
  exact k_iret X hE dX5_jobs_7 (by first | omega | exact Nat.le_of_ble_eq_true rfl | (dsimp only; omega)) (by first | omega | exact Nat.le_of_ble_eq_true rfl | (dsimp only; omega)) ⟨rfl, rfl, rfl⟩

set_option maxHeartbeats 4000000 in
set_option maxRecDepth 100000 in
theorem c_done {l : Launch} (htr : l.stackTraces = false) {E : kE} {A : Nat → Prop} {C : kC} {L : kL} {S : kI4} {N : kN3} (hX : isX E C L S N) (hO : okX S N)  : kM l yX5_done cX5_done 1 (some .int) 0 0 0 0 E A C L [.ref (L (1, 0, 0))] (fun v C' L' => v = some (.int (S 12 0 0 0)) ∧ L = L' ∧ C = C') := by
  refine kM.of htr (by decide) (Nat.le_of_ble_eq_true rfl) (fun Γ hl hR hN hnm X hE => ?_)
  refine k_lo (lo' := [(0, .ref (L (1, 0, 0)))]) ⟨rfl, trivial⟩ ?_
  refine k_aload_n X dX5_done_0 rfl rfl ?_
  refine k_get0 X hX.1.1.1 (q := (RX5, TX5, 3)) rfl inlX5 2 (by decide) kb_16 (Or.inl rfl) rfl rfl dX5_done_1 ?_
  exact k_iret X hE dX5_done_4 (by first | omega | exact Nat.le_of_ble_eq_true rfl | (dsimp only; omega)) (by first | omega | exact Nat.le_of_ble_eq_true rfl | (dsimp only; omega)) ⟨rfl, rfl, rfl⟩

set_option maxHeartbeats 4000000 in
set_option maxRecDepth 100000 in
theorem c_crew {l : Launch} (htr : l.stackTraces = false) {E : kE} {A : Nat → Prop} {C : kC} {L : kL} {S : kI4} {N : kN3} (hX : isX E C L S N) (hO : okX S N) (job : Int32) : kMX l yX5_crew cX5_crew 2 (some .int) 7 103 1 6 E A C L [.ref (L (1, 0, 0)), .int job] (fun v C' L' => (∃ i, i < N 1 0 0 ∧ job = nI i ∧ v = some (.int (S 2 i 0 0))) ∧ L = L' ∧ C = C') (fun X9 => (X9 = eIO ∧ ¬ kix job (N 1 0 0))) := by
  obtain ⟨vl2, hl2⟩ := hX.1.2.1.hd
  have hb1 := hO.1
  refine kMX.of htr (by decide) (Nat.le_of_ble_eq_true rfl) (fun Γ hl hR hN X hE hT => ?_)
  refine k_lo (lo' := [(0, .ref (L (1, 0, 0))), (1, .int job)]) ⟨rfl, rfl, trivial⟩ ?_
  refine k_aload_n X dX5_crew_0 rfl rfl ?_
  refine k_iload_n X dX5_crew_1 rfl rfl ?_
  refine k_callVX (rest := []) X hT kv_X5_jobAt kb_168 (c_jobAt X.tr hX hO job) (fun _ h => ⟨h, rfl, rfl⟩) hX.1.1.1 rfl rfl rfl rfl rfl (Nat.le_of_ble_eq_true rfl) ⟨by rw [hR]; exact Nat.le_of_ble_eq_true rfl, by rw [hR]; exact Nat.le_of_ble_eq_true rfl⟩ ⟨by rw [hR]; exact Nat.le_of_ble_eq_true rfl, by rw [hR]; exact Nat.le_of_ble_eq_true rfl⟩ ⟨by omega, by omega⟩ dX5_crew_2 (fun v2 C9 L9 h9 => ?_)
  obtain ⟨⟨i, hi, rfl, rfl⟩, rfl, rfl⟩ := h9
  refine k_get0 X (hX.1.2.2.2 i hi).1 (q := (RX3, TX3, 3)) rfl inlX3 1 (by decide) kb_167 (Or.inl rfl) rfl rfl dX5_crew_5 ?_
  exact k_iret X hE dX5_crew_8 (by first | omega | exact Nat.le_of_ble_eq_true rfl | (dsimp only; omega)) (by first | omega | exact Nat.le_of_ble_eq_true rfl | (dsimp only; omega)) ⟨⟨i, hi, rfl, rfl⟩, rfl, rfl⟩

set_option maxHeartbeats 4000000 in
set_option maxRecDepth 100000 in
theorem c_site {l : Launch} (htr : l.stackTraces = false) {E : kE} {A : Nat → Prop} {C : kC} {L : kL} {S : kI4} {N : kN3} (hX : isX E C L S N) (hO : okX S N) (job : Int32) : kMX l yX5_site cX5_site 2 (some .int) 7 103 1 6 E A C L [.ref (L (1, 0, 0)), .int job] (fun v C' L' => (∃ i, i < N 1 0 0 ∧ job = nI i ∧ v = some (.int (S 1 i 0 0))) ∧ L = L' ∧ C = C') (fun X9 => (X9 = eIO ∧ ¬ kix job (N 1 0 0))) := by
  obtain ⟨vl2, hl2⟩ := hX.1.2.1.hd
  have hb1 := hO.1
  refine kMX.of htr (by decide) (Nat.le_of_ble_eq_true rfl) (fun Γ hl hR hN X hE hT => ?_)
  refine k_lo (lo' := [(0, .ref (L (1, 0, 0))), (1, .int job)]) ⟨rfl, rfl, trivial⟩ ?_
  refine k_aload_n X dX5_site_0 rfl rfl ?_
  refine k_iload_n X dX5_site_1 rfl rfl ?_
  refine k_callVX (rest := []) X hT kv_X5_jobAt kb_168 (c_jobAt X.tr hX hO job) (fun _ h => ⟨h, rfl, rfl⟩) hX.1.1.1 rfl rfl rfl rfl rfl (Nat.le_of_ble_eq_true rfl) ⟨by rw [hR]; exact Nat.le_of_ble_eq_true rfl, by rw [hR]; exact Nat.le_of_ble_eq_true rfl⟩ ⟨by rw [hR]; exact Nat.le_of_ble_eq_true rfl, by rw [hR]; exact Nat.le_of_ble_eq_true rfl⟩ ⟨by omega, by omega⟩ dX5_site_2 (fun v2 C9 L9 h9 => ?_)
  obtain ⟨⟨i, hi, rfl, rfl⟩, rfl, rfl⟩ := h9
  refine k_get0 X (hX.1.2.2.2 i hi).1 (q := (RX3, TX3, 3)) rfl inlX3 0 (by decide) kb_394 (Or.inl rfl) rfl rfl dX5_site_5 ?_
  exact k_iret X hE dX5_site_8 (by first | omega | exact Nat.le_of_ble_eq_true rfl | (dsimp only; omega)) (by first | omega | exact Nat.le_of_ble_eq_true rfl | (dsimp only; omega)) ⟨⟨i, hi, rfl, rfl⟩, rfl, rfl⟩

set_option maxHeartbeats 4000000 in
set_option maxRecDepth 100000 in
theorem c_value {l : Launch} (htr : l.stackTraces = false) {E : kE} {A : Nat → Prop} {C : kC} {L : kL} {S : kI4} {N : kN3} (hX : isX E C L S N) (hO : okX S N) (job f : Int32) : kMX l yX5_value cX5_value 4 (some .int) 8 124 2 12 E A C L [.ref (L (1, 0, 0)), .int job, .int f] (fun v C' L' => (∃ i, i < N 1 0 0 ∧ job = nI i ∧ kin f (nI 0) (nI 1) ∧ v = some (.int (if f = nI 0 then S 3 i 0 0 else S 3 i 0 1))) ∧ L = L' ∧ C = C') (fun X9 => (X9 = eIO ∧ ¬ kix job (N 1 0 0)) ∨ (X9 = eIA ∧ kix job (N 1 0 0) ∧ ¬ (kin f (nI 0) (nI 1)))) := by
  obtain ⟨vl2, hl2⟩ := hX.1.2.1.hd
  have hb1 := hO.1
  refine kMX.of htr (by decide) (Nat.le_of_ble_eq_true rfl) (fun Γ hl hR hN X hE hT => ?_)
  refine k_lo (lo' := [(0, .ref (L (1, 0, 0))), (1, .int job), (2, .int f)]) ⟨rfl, rfl, rfl, trivial⟩ ?_
  refine k_aload_n X dX5_value_0 rfl rfl ?_
  refine k_iload_n X dX5_value_1 rfl rfl ?_
  refine k_callVX (rest := []) X hT kv_X5_jobAt kb_168 (c_jobAt X.tr hX hO job) (fun _ h => ⟨Or.inl h, rfl, rfl⟩) hX.1.1.1 rfl rfl rfl rfl rfl (Nat.le_of_ble_eq_true rfl) ⟨by rw [hR]; exact Nat.le_of_ble_eq_true rfl, by rw [hR]; exact Nat.le_of_ble_eq_true rfl⟩ ⟨by rw [hR]; exact Nat.le_of_ble_eq_true rfl, by rw [hR]; exact Nat.le_of_ble_eq_true rfl⟩ ⟨by omega, by omega⟩ dX5_value_2 (fun v2 C9 L9 h9 => ?_)
  obtain ⟨⟨i, hi, rfl, rfl⟩, rfl, rfl⟩ := h9
  refine k_get0 X (hX.1.2.2.2 i hi).1 (q := (RX3, TX3, 3)) rfl inlX3 2 (by decide) kb_198 (Or.inl rfl) rfl rfl dX5_value_5 ?_
  refine k_astore_n X dX5_value_8 rfl (by rw [hN]; decide) ?_
  refine k_iload_n X dX5_value_9 rfl rfl ?_
  refine k_callSX (rest := []) X hT ks_X5_checkField kb_202 (c_checkField X.tr f) (fun _ h => ⟨Or.inr ⟨h.1, kix.of hi (by omega), h.2⟩, rfl, rfl⟩) rfl rfl (Nat.le_of_ble_eq_true rfl) ⟨by rw [hR]; exact Nat.le_of_ble_eq_true rfl, by rw [hR]; exact Nat.le_of_ble_eq_true rfl⟩ ⟨by rw [hR]; exact Nat.le_of_ble_eq_true rfl, by rw [hR]; exact Nat.le_of_ble_eq_true rfl⟩ ⟨by omega, by omega⟩ dX5_value_10 (fun v10 C9 L9 h9 => ?_)
  obtain ⟨hp, rfl, rfl, rfl⟩ := h9
  refine k_aload_n X dX5_value_13 rfl rfl ?_
  refine k_iload_n X dX5_value_14 rfl rfl ?_
  refine k_callV (rest := []) X kv_X2_valueOf kb_402 (c_X2_valueOf X.tr f (hX.1.2.2.2 i hi).2) (hX.1.2.2.2 i hi).2 rfl rfl rfl rfl rfl (Nat.le_of_ble_eq_true rfl) ⟨by rw [hR]; exact Nat.le_of_ble_eq_true rfl, by rw [hR]; exact Nat.le_of_ble_eq_true rfl⟩ ⟨by rw [hR]; exact Nat.le_of_ble_eq_true rfl, by rw [hR]; exact Nat.le_of_ble_eq_true rfl⟩ dX5_value_15 (fun v15 C9 L9 h9 => ?_)
  obtain ⟨rfl, rfl, rfl⟩ := h9
  exact k_iret X hE dX5_value_18 (by first | omega | exact Nat.le_of_ble_eq_true rfl | (dsimp only; omega)) (by first | omega | exact Nat.le_of_ble_eq_true rfl | (dsimp only; omega)) ⟨⟨i, hi, rfl, hp, rfl⟩, rfl, rfl⟩

set_option maxHeartbeats 4000000 in
set_option maxRecDepth 100000 in
theorem c_version {l : Launch} (htr : l.stackTraces = false) {E : kE} {A : Nat → Prop} {C : kC} {L : kL} {S : kI4} {N : kN3} (hX : isX E C L S N) (hO : okX S N) (job f : Int32) : kMX l yX5_version cX5_version 4 (some .int) 8 124 2 12 E A C L [.ref (L (1, 0, 0)), .int job, .int f] (fun v C' L' => (∃ i, i < N 1 0 0 ∧ job = nI i ∧ kin f (nI 0) (nI 1) ∧ v = some (.int (if f = nI 0 then S 3 i 0 2 else S 3 i 0 3))) ∧ L = L' ∧ C = C') (fun X9 => (X9 = eIO ∧ ¬ kix job (N 1 0 0)) ∨ (X9 = eIA ∧ kix job (N 1 0 0) ∧ ¬ (kin f (nI 0) (nI 1)))) := by
  obtain ⟨vl2, hl2⟩ := hX.1.2.1.hd
  have hb1 := hO.1
  refine kMX.of htr (by decide) (Nat.le_of_ble_eq_true rfl) (fun Γ hl hR hN X hE hT => ?_)
  refine k_lo (lo' := [(0, .ref (L (1, 0, 0))), (1, .int job), (2, .int f)]) ⟨rfl, rfl, rfl, trivial⟩ ?_
  refine k_aload_n X dX5_version_0 rfl rfl ?_
  refine k_iload_n X dX5_version_1 rfl rfl ?_
  refine k_callVX (rest := []) X hT kv_X5_jobAt kb_168 (c_jobAt X.tr hX hO job) (fun _ h => ⟨Or.inl h, rfl, rfl⟩) hX.1.1.1 rfl rfl rfl rfl rfl (Nat.le_of_ble_eq_true rfl) ⟨by rw [hR]; exact Nat.le_of_ble_eq_true rfl, by rw [hR]; exact Nat.le_of_ble_eq_true rfl⟩ ⟨by rw [hR]; exact Nat.le_of_ble_eq_true rfl, by rw [hR]; exact Nat.le_of_ble_eq_true rfl⟩ ⟨by omega, by omega⟩ dX5_version_2 (fun v2 C9 L9 h9 => ?_)
  obtain ⟨⟨i, hi, rfl, rfl⟩, rfl, rfl⟩ := h9
  refine k_get0 X (hX.1.2.2.2 i hi).1 (q := (RX3, TX3, 3)) rfl inlX3 2 (by decide) kb_198 (Or.inl rfl) rfl rfl dX5_version_5 ?_
  refine k_astore_n X dX5_version_8 rfl (by rw [hN]; decide) ?_
  refine k_iload_n X dX5_version_9 rfl rfl ?_
  refine k_callSX (rest := []) X hT ks_X5_checkField kb_202 (c_checkField X.tr f) (fun _ h => ⟨Or.inr ⟨h.1, kix.of hi (by omega), h.2⟩, rfl, rfl⟩) rfl rfl (Nat.le_of_ble_eq_true rfl) ⟨by rw [hR]; exact Nat.le_of_ble_eq_true rfl, by rw [hR]; exact Nat.le_of_ble_eq_true rfl⟩ ⟨by rw [hR]; exact Nat.le_of_ble_eq_true rfl, by rw [hR]; exact Nat.le_of_ble_eq_true rfl⟩ ⟨by omega, by omega⟩ dX5_version_10 (fun v10 C9 L9 h9 => ?_)
  obtain ⟨hp, rfl, rfl, rfl⟩ := h9
  refine k_aload_n X dX5_version_13 rfl rfl ?_
  refine k_iload_n X dX5_version_14 rfl rfl ?_
  refine k_callV (rest := []) X kv_X2_versionOf kb_209 (c_X2_versionOf X.tr f (hX.1.2.2.2 i hi).2) (hX.1.2.2.2 i hi).2 rfl rfl rfl rfl rfl (Nat.le_of_ble_eq_true rfl) ⟨by rw [hR]; exact Nat.le_of_ble_eq_true rfl, by rw [hR]; exact Nat.le_of_ble_eq_true rfl⟩ ⟨by rw [hR]; exact Nat.le_of_ble_eq_true rfl, by rw [hR]; exact Nat.le_of_ble_eq_true rfl⟩ dX5_version_15 (fun v15 C9 L9 h9 => ?_)
  obtain ⟨rfl, rfl, rfl⟩ := h9
  exact k_iret X hE dX5_version_18 (by first | omega | exact Nat.le_of_ble_eq_true rfl | (dsimp only; omega)) (by first | omega | exact Nat.le_of_ble_eq_true rfl | (dsimp only; omega)) ⟨⟨i, hi, rfl, hp, rfl⟩, rfl, rfl⟩

theorem kneD2 {f d' k f0 d k0 : Nat} (z : ¬ (f = f0 ∧ d' = d)) : ((f, d', k) : kT) ≠ (f0, d, k0) := kneD z

set_option maxHeartbeats 4000000 in
set_option maxRecDepth 100000 in
theorem c_give {l : Launch} (htr : l.stackTraces = false) {E : kE} {A : Nat → Prop} {C : kC} {L : kL} {S : kI4} {N : kN3} (hX : isX E C L S N) (hO : okX S N) (job cr : Int32) : kMX l yX5_give cX5_give 5 (some .int) 7 104 2 12 E A C L [.ref (L (1, 0, 0)), .int job, .int cr] (fun v C' L' => (∃ i, i < N 1 0 0 ∧ job = nI i ∧ kin cr (nI 0) (nI 3) ∧ v = some (.int (S 2 i 0 0)) ∧ isX E C' L' (w4 S 2 i 0 0 cr) N) ∧ L = L' ∧ kFr C L C' L') (fun X9 => (X9 = eIO ∧ ¬ kix job (N 1 0 0)) ∨ (X9 = eIA ∧ kix job (N 1 0 0) ∧ ¬ (kin cr (nI 0) (nI 3)))) := by
  obtain ⟨vl2, hl2⟩ := hX.1.2.1.hd
  have hb1 := hO.1
  refine kMX.of htr (by decide) (Nat.le_of_ble_eq_true rfl) (fun Γ hl hR hN X hE hT => ?_)
  refine k_lo (lo' := [(0, .ref (L (1, 0, 0))), (1, .int job), (2, .int cr)]) ⟨rfl, rfl, rfl, trivial⟩ ?_
  refine k_aload_n X dX5_give_0 rfl rfl ?_
  refine k_iload_n X dX5_give_1 rfl rfl ?_
  refine k_callVX (rest := []) X hT kv_X5_jobAt kb_168 (c_jobAt X.tr hX hO job) (fun _ h => ⟨Or.inl h, rfl, rfl⟩) hX.1.1.1 rfl rfl rfl rfl rfl (Nat.le_of_ble_eq_true rfl) ⟨by rw [hR]; exact Nat.le_of_ble_eq_true rfl, by rw [hR]; exact Nat.le_of_ble_eq_true rfl⟩ ⟨by rw [hR]; exact Nat.le_of_ble_eq_true rfl, by rw [hR]; exact Nat.le_of_ble_eq_true rfl⟩ ⟨by omega, by omega⟩ dX5_give_2 (fun v2 C9 L9 h9 => ?_)
  obtain ⟨⟨i, hi, rfl, rfl⟩, rfl, rfl⟩ := h9
  refine k_astore_n X dX5_give_5 rfl (by rw [hN]; decide) ?_
  refine k_iload_n X dX5_give_6 rfl rfl ?_
  refine k_iconst (v := (nI 0)) X dX5_give_7 (by decide) ?_
  refine k_iconst (v := (nI 3)) X dX5_give_8 (by decide) ?_
  refine k_callSX (rest := []) X hT ks_X5_checkRange kb_84 (c_checkRange X.tr cr (nI 0) (nI 3)) (fun _ h => ⟨Or.inr ⟨h.1, kix.of hi (by omega), h.2⟩, rfl, rfl⟩) rfl rfl (Nat.le_of_ble_eq_true rfl) ⟨by rw [hR]; exact Nat.le_of_ble_eq_true rfl, by rw [hR]; exact Nat.le_of_ble_eq_true rfl⟩ ⟨by rw [hR]; exact Nat.le_of_ble_eq_true rfl, by rw [hR]; exact Nat.le_of_ble_eq_true rfl⟩ ⟨by omega, by omega⟩ dX5_give_9 (fun v9 C9 L9 h9 => ?_)
  obtain ⟨hp, rfl, rfl, rfl⟩ := h9
  refine k_aload_n X dX5_give_12 rfl rfl ?_
  refine k_get0 X (hX.1.2.2.2 i hi).1 (q := (RX3, TX3, 3)) rfl inlX3 1 (by decide) kb_167 (Or.inl rfl) rfl rfl dX5_give_13 ?_
  refine k_istore X dX5_give_16 (by rw [hN]; decide) ?_
  refine k_aload_n X dX5_give_18 rfl rfl ?_
  refine k_iload_n X dX5_give_19 rfl rfl ?_
  refine k_put1 X (hX.1.2.2.2 i hi).1 (fs9 := [.int (S 1 i 0 0), .int cr, .ref (L (15, i, 0))]) (q := (RX3, TX3, 3)) rfl inlX3 tyX3 tyX3_ok nmX3 1 (by decide) kb_167 (Or.inl rfl) (Or.inl rfl) rfl rfl rfl (Nat.le_of_ble_eq_true rfl) rfl dX5_give_20 ?_
  refine k_iload X dX5_give_23 rfl ?_
  exact k_iret X hE dX5_give_25 (by first | omega | exact Nat.le_of_ble_eq_true rfl | (dsimp only; omega)) (by first | omega | exact Nat.le_of_ble_eq_true rfl | (dsimp only; omega)) ⟨⟨i, hi, rfl, hp, rfl, isX.j14 (kup_s.trans (by simp [w4])) hX (fun f d' k z => kup_n (kneD2 z)) (fun _ _ _ _ => rfl) (fun f d' k j z => w4_n (by omega)) (fun _ _ _ _ => rfl)⟩, rfl, kFr.rf.up (by decide)⟩

set_option maxHeartbeats 4000000 in
set_option maxRecDepth 100000 in
theorem c_set {l : Launch} (htr : l.stackTraces = false) {E : kE} {A : Nat → Prop} {C : kC} {L : kL} {S : kI4} {N : kN3} (hX : isX E C L S N) (hO : okX S N) (job f x : Int32) : kMX l yX5_set cX5_set 5 (some .int) 9 145 3 18 E A C L [.ref (L (1, 0, 0)), .int job, .int f, .int x] (fun v C' L' => (∃ i, i < N 1 0 0 ∧ job = nI i ∧ (kin f (nI 0) (nI 1) ∧ kin x (nI 0) (if f = nI 0 then nI 2 else nI 10000)) ∧ v = some (.int (if f = nI 0 then sPut S 3 i 0 f x 3 i 0 2 else sPut S 3 i 0 f x 3 i 0 3)) ∧ isX E C' L' (sPut S 3 i 0 f x) N) ∧ L = L' ∧ kFr C L C' L') (fun X9 => (X9 = eIO ∧ ¬ kix job (N 1 0 0)) ∨ (X9 = eIA ∧ kix job (N 1 0 0) ∧ ¬ (kin f (nI 0) (nI 1) ∧ kin x (nI 0) (if f = nI 0 then nI 2 else nI 10000)))) := by
  obtain ⟨vl2, hl2⟩ := hX.1.2.1.hd
  have hb1 := hO.1
  refine kMX.of htr (by decide) (Nat.le_of_ble_eq_true rfl) (fun Γ hl hR hN X hE hT => ?_)
  refine k_lo (lo' := [(0, .ref (L (1, 0, 0))), (1, .int job), (2, .int f), (3, .int x)]) ⟨rfl, rfl, rfl, rfl, trivial⟩ ?_
  refine k_aload_n X dX5_set_0 rfl rfl ?_
  refine k_iload_n X dX5_set_1 rfl rfl ?_
  refine k_callVX (rest := []) X hT kv_X5_jobAt kb_168 (c_jobAt X.tr hX hO job) (fun _ h => ⟨Or.inl h, rfl, rfl⟩) hX.1.1.1 rfl rfl rfl rfl rfl (Nat.le_of_ble_eq_true rfl) ⟨by rw [hR]; exact Nat.le_of_ble_eq_true rfl, by rw [hR]; exact Nat.le_of_ble_eq_true rfl⟩ ⟨by rw [hR]; exact Nat.le_of_ble_eq_true rfl, by rw [hR]; exact Nat.le_of_ble_eq_true rfl⟩ ⟨by omega, by omega⟩ dX5_set_2 (fun v2 C9 L9 h9 => ?_)
  obtain ⟨⟨i, hi, rfl, rfl⟩, rfl, rfl⟩ := h9
  refine k_get0 X (hX.1.2.2.2 i hi).1 (q := (RX3, TX3, 3)) rfl inlX3 2 (by decide) kb_198 (Or.inl rfl) rfl rfl dX5_set_5 ?_
  refine k_astore X dX5_set_8 (by rw [hN]; decide) ?_
  refine k_iload_n X dX5_set_10 rfl rfl ?_
  refine k_iload_n X dX5_set_11 rfl rfl ?_
  refine k_callSX (rest := []) X hT ks_X5_checkValue kb_199 (c_checkValue X.tr f x) (fun _ h => ⟨Or.inr ⟨h.1, kix.of hi (by omega), h.2⟩, rfl, rfl⟩) rfl rfl (Nat.le_of_ble_eq_true rfl) ⟨by rw [hR]; exact Nat.le_of_ble_eq_true rfl, by rw [hR]; exact Nat.le_of_ble_eq_true rfl⟩ ⟨by rw [hR]; exact Nat.le_of_ble_eq_true rfl, by rw [hR]; exact Nat.le_of_ble_eq_true rfl⟩ ⟨by omega, by omega⟩ dX5_set_12 (fun v12 C9 L9 h9 => ?_)
  obtain ⟨hp, rfl, rfl, rfl⟩ := h9
  refine k_aload X dX5_set_15 rfl ?_
  refine k_iload_n X dX5_set_17 rfl rfl ?_
  refine k_iload_n X dX5_set_18 rfl rfl ?_
  refine k_callV (rest := []) X kv_X2_put kb_205 (c_X2_putA X.tr f x (t := (15, i, 0)) (S := S) (fS := 3) (a := i) (b := 0) rfl (hX.1.2.2.2 i hi).2) (hX.1.2.2.2 i hi).2 rfl rfl rfl rfl rfl (Nat.le_of_ble_eq_true rfl) ⟨by rw [hR]; exact Nat.le_of_ble_eq_true rfl, by rw [hR]; exact Nat.le_of_ble_eq_true rfl⟩ ⟨by rw [hR]; exact Nat.le_of_ble_eq_true rfl, by rw [hR]; exact Nat.le_of_ble_eq_true rfl⟩ dX5_set_19 (fun v19 C9 L9 h9 => ?_)
  obtain ⟨rfl, rfl, rfl⟩ := h9
  refine k_aload X dX5_set_22 rfl ?_
  refine k_iload_n X dX5_set_24 rfl rfl ?_
  refine k_callV (rest := []) X kv_X2_versionOf kb_209 (c_X2_versionOfA X.tr f (t := (15, i, 0)) rfl kup_s) kup_s rfl rfl rfl rfl rfl (Nat.le_of_ble_eq_true rfl) ⟨by rw [hR]; exact Nat.le_of_ble_eq_true rfl, by rw [hR]; exact Nat.le_of_ble_eq_true rfl⟩ ⟨by rw [hR]; exact Nat.le_of_ble_eq_true rfl, by rw [hR]; exact Nat.le_of_ble_eq_true rfl⟩ dX5_set_25 (fun v25 C9 L9 h9 => ?_)
  obtain ⟨rfl, rfl, rfl⟩ := h9
  exact k_iret X hE dX5_set_28 (by first | omega | exact Nat.le_of_ble_eq_true rfl | (dsimp only; omega)) (by first | omega | exact Nat.le_of_ble_eq_true rfl | (dsimp only; omega)) ⟨⟨i, hi, rfl, hp, rfl, isX.f15 kup_s hX (fun f d' k z => kup_n (kneD2 z)) (fun _ _ _ _ => rfl) (fun f d' k j z => sPut_n (by omega)) (fun _ _ _ _ => rfl)⟩, rfl, kFr.rf.up (by decide)⟩

set_option maxHeartbeats 4000000 in
set_option maxRecDepth 100000 in
theorem c_held {l : Launch} (htr : l.stackTraces = false) {E : kE} {A : Nat → Prop} {C : kC} {L : kL} {S : kI4} {N : kN3} (hX : isX E C L S N) (hO : okX S N) (dv : Int32) : kMX l yX5_held cX5_held 2 (some .int) 7 103 1 6 E A C L [.ref (L (1, 0, 0)), .int dv] (fun v C' L' => (∃ d, d < 4 ∧ dv = nI d ∧ v = some (.int (S 6 d 0 0 + S 7 d 0 0))) ∧ L = L' ∧ C = C') (fun X9 => (X9 = eIO ∧ ¬ kix dv 4)) := by
  obtain ⟨vl2, hl2⟩ := hX.1.2.1.hd
  have hb1 := hO.1
  refine kMX.of htr (by decide) (Nat.le_of_ble_eq_true rfl) (fun Γ hl hR hN X hE hT => ?_)
  refine k_lo (lo' := [(0, .ref (L (1, 0, 0))), (1, .int dv)]) ⟨rfl, rfl, trivial⟩ ?_
  refine k_aload_n X dX5_held_0 rfl rfl ?_
  refine k_iload_n X dX5_held_1 rfl rfl ?_
  refine k_callVX (rest := []) X hT kv_X5_deviceAt kb_221 (c_deviceAt X.tr hX hO dv) (fun _ h => ⟨h, rfl, rfl⟩) hX.1.1.1 rfl rfl rfl rfl rfl (Nat.le_of_ble_eq_true rfl) ⟨by rw [hR]; exact Nat.le_of_ble_eq_true rfl, by rw [hR]; exact Nat.le_of_ble_eq_true rfl⟩ ⟨by rw [hR]; exact Nat.le_of_ble_eq_true rfl, by rw [hR]; exact Nat.le_of_ble_eq_true rfl⟩ ⟨by omega, by omega⟩ dX5_held_2 (fun v2 C9 L9 h9 => ?_)
  obtain ⟨⟨d, hd, rfl, rfl⟩, rfl, rfl⟩ := h9
  obtain ⟨vl8, hl8⟩ := (hX.2 d hd).2.2.2.1.hd
  obtain ⟨vl10, hl10⟩ := (hX.2 d hd).2.2.2.2.1.hd
  obtain ⟨vl12, hl12⟩ := (hX.2 d hd).2.2.2.2.2.1.hd
  have hb2 := (hO.2 d hd).1
  have hb3 := (hO.2 d hd).2.1
  have hb4 := (hO.2 d hd).2.2.1
  have hb5 := (hO.2 d hd).2.2.2.1
  have hb6 := (hO.2 d hd).2.2.2.2
  refine k_callV (rest := []) X kv_X1_heldCount kb_250 (c_heldCount X.tr hX hO hd) (hX.2 d hd).1 rfl rfl rfl rfl rfl (Nat.le_of_ble_eq_true rfl) ⟨by rw [hR]; exact Nat.le_of_ble_eq_true rfl, by rw [hR]; exact Nat.le_of_ble_eq_true rfl⟩ ⟨by rw [hR]; exact Nat.le_of_ble_eq_true rfl, by rw [hR]; exact Nat.le_of_ble_eq_true rfl⟩ dX5_held_5 (fun v5 C9 L9 h9 => ?_)
  obtain ⟨rfl, rfl, rfl⟩ := h9
  exact k_iret X hE dX5_held_8 (by first | omega | exact Nat.le_of_ble_eq_true rfl | (dsimp only; omega)) (by first | omega | exact Nat.le_of_ble_eq_true rfl | (dsimp only; omega)) ⟨⟨d, hd, rfl, rfl⟩, rfl, rfl⟩

set_option maxHeartbeats 4000000 in
set_option maxRecDepth 100000 in
theorem c_waiting {l : Launch} (htr : l.stackTraces = false) {E : kE} {A : Nat → Prop} {C : kC} {L : kL} {S : kI4} {N : kN3} (hX : isX E C L S N) (hO : okX S N) (dv : Int32) : kMX l yX5_waiting cX5_waiting 2 (some .int) 7 103 1 6 E A C L [.ref (L (1, 0, 0)), .int dv] (fun v C' L' => (∃ d, d < 4 ∧ dv = nI d ∧ v = some (.int (nI (N 3 d 0 - N 4 d 0)))) ∧ L = L' ∧ C = C') (fun X9 => (X9 = eIO ∧ ¬ kix dv 4)) := by
  obtain ⟨vl2, hl2⟩ := hX.1.2.1.hd
  have hb1 := hO.1
  refine kMX.of htr (by decide) (Nat.le_of_ble_eq_true rfl) (fun Γ hl hR hN X hE hT => ?_)
  refine k_lo (lo' := [(0, .ref (L (1, 0, 0))), (1, .int dv)]) ⟨rfl, rfl, trivial⟩ ?_
  refine k_aload_n X dX5_waiting_0 rfl rfl ?_
  refine k_iload_n X dX5_waiting_1 rfl rfl ?_
  refine k_callVX (rest := []) X hT kv_X5_deviceAt kb_221 (c_deviceAt X.tr hX hO dv) (fun _ h => ⟨h, rfl, rfl⟩) hX.1.1.1 rfl rfl rfl rfl rfl (Nat.le_of_ble_eq_true rfl) ⟨by rw [hR]; exact Nat.le_of_ble_eq_true rfl, by rw [hR]; exact Nat.le_of_ble_eq_true rfl⟩ ⟨by rw [hR]; exact Nat.le_of_ble_eq_true rfl, by rw [hR]; exact Nat.le_of_ble_eq_true rfl⟩ ⟨by omega, by omega⟩ dX5_waiting_2 (fun v2 C9 L9 h9 => ?_)
  obtain ⟨⟨d, hd, rfl, rfl⟩, rfl, rfl⟩ := h9
  obtain ⟨vl8, hl8⟩ := (hX.2 d hd).2.2.2.1.hd
  obtain ⟨vl10, hl10⟩ := (hX.2 d hd).2.2.2.2.1.hd
  obtain ⟨vl12, hl12⟩ := (hX.2 d hd).2.2.2.2.2.1.hd
  have hb2 := (hO.2 d hd).1
  have hb3 := (hO.2 d hd).2.1
  have hb4 := (hO.2 d hd).2.2.1
  have hb5 := (hO.2 d hd).2.2.2.1
  have hb6 := (hO.2 d hd).2.2.2.2
  refine k_callV (rest := []) X kv_X1_waitingCount kb_300 (c_waitingCount X.tr hX hO hd) (hX.2 d hd).1 rfl rfl rfl rfl rfl (Nat.le_of_ble_eq_true rfl) ⟨by rw [hR]; exact Nat.le_of_ble_eq_true rfl, by rw [hR]; exact Nat.le_of_ble_eq_true rfl⟩ ⟨by rw [hR]; exact Nat.le_of_ble_eq_true rfl, by rw [hR]; exact Nat.le_of_ble_eq_true rfl⟩ dX5_waiting_5 (fun v5 C9 L9 h9 => ?_)
  obtain ⟨rfl, rfl, rfl⟩ := h9
  exact k_iret X hE dX5_waiting_8 (by first | omega | exact Nat.le_of_ble_eq_true rfl | (dsimp only; omega)) (by first | omega | exact Nat.le_of_ble_eq_true rfl | (dsimp only; omega)) ⟨⟨d, hd, rfl, rfl⟩, rfl, rfl⟩

set_option maxHeartbeats 4000000 in
set_option maxRecDepth 100000 in
theorem c_pile {l : Launch} (htr : l.stackTraces = false) {E : kE} {A : Nat → Prop} {C : kC} {L : kL} {S : kI4} {N : kN3} (hX : isX E C L S N) (hO : okX S N) (dv : Int32) : kMX l yX5_pile cX5_pile 2 (some .int) 7 103 1 6 E A C L [.ref (L (1, 0, 0)), .int dv] (fun v C' L' => (∃ d, d < 4 ∧ dv = nI d ∧ v = some (.int (nI (N 5 d 0)))) ∧ L = L' ∧ C = C') (fun X9 => (X9 = eIO ∧ ¬ kix dv 4)) := by
  obtain ⟨vl2, hl2⟩ := hX.1.2.1.hd
  have hb1 := hO.1
  refine kMX.of htr (by decide) (Nat.le_of_ble_eq_true rfl) (fun Γ hl hR hN X hE hT => ?_)
  refine k_lo (lo' := [(0, .ref (L (1, 0, 0))), (1, .int dv)]) ⟨rfl, rfl, trivial⟩ ?_
  refine k_aload_n X dX5_pile_0 rfl rfl ?_
  refine k_iload_n X dX5_pile_1 rfl rfl ?_
  refine k_callVX (rest := []) X hT kv_X5_deviceAt kb_221 (c_deviceAt X.tr hX hO dv) (fun _ h => ⟨h, rfl, rfl⟩) hX.1.1.1 rfl rfl rfl rfl rfl (Nat.le_of_ble_eq_true rfl) ⟨by rw [hR]; exact Nat.le_of_ble_eq_true rfl, by rw [hR]; exact Nat.le_of_ble_eq_true rfl⟩ ⟨by rw [hR]; exact Nat.le_of_ble_eq_true rfl, by rw [hR]; exact Nat.le_of_ble_eq_true rfl⟩ ⟨by omega, by omega⟩ dX5_pile_2 (fun v2 C9 L9 h9 => ?_)
  obtain ⟨⟨d, hd, rfl, rfl⟩, rfl, rfl⟩ := h9
  obtain ⟨vl8, hl8⟩ := (hX.2 d hd).2.2.2.1.hd
  obtain ⟨vl10, hl10⟩ := (hX.2 d hd).2.2.2.2.1.hd
  obtain ⟨vl12, hl12⟩ := (hX.2 d hd).2.2.2.2.2.1.hd
  have hb2 := (hO.2 d hd).1
  have hb3 := (hO.2 d hd).2.1
  have hb4 := (hO.2 d hd).2.2.1
  have hb5 := (hO.2 d hd).2.2.2.1
  have hb6 := (hO.2 d hd).2.2.2.2
  refine k_get0 X (hX.2 d hd).1 (q := (RX1, TX1, 9)) rfl inlX1 8 (by decide) kb_449 (Or.inl rfl) rfl rfl dX5_pile_5 ?_
  refine k_callV (rest := []) X kv_Jx4a65c_size_8abf5 kb_63 (c_Ls_size X.tr (hX.2 d hd).2.2.2.2.2.1) hl12 rfl rfl rfl rfl rfl (Nat.le_of_ble_eq_true rfl) ⟨by rw [hR]; exact Nat.le_of_ble_eq_true rfl, by rw [hR]; exact Nat.le_of_ble_eq_true rfl⟩ ⟨by rw [hR]; exact Nat.le_of_ble_eq_true rfl, by rw [hR]; exact Nat.le_of_ble_eq_true rfl⟩ dX5_pile_8 (fun v8 C9 L9 h9 => ?_)
  obtain ⟨rfl, rfl, rfl⟩ := h9
  exact k_iret X hE dX5_pile_11 (by first | omega | exact Nat.le_of_ble_eq_true rfl | (dsimp only; omega)) (by first | omega | exact Nat.le_of_ble_eq_true rfl | (dsimp only; omega)) ⟨⟨d, hd, rfl, rfl⟩, rfl, rfl⟩

set_option maxHeartbeats 4000000 in
set_option maxRecDepth 100000 in
theorem c_setRoom {l : Launch} (htr : l.stackTraces = false) {E : kE} {A : Nat → Prop} {C : kC} {L : kL} {S : kI4} {N : kN3} (hX : isX E C L S N) (hO : okX S N) (dv ro : Int32) : kMX l yX5_setRoom cX5_setRoom 5 (some .int) 7 104 2 12 E A C L [.ref (L (1, 0, 0)), .int dv, .int ro] (fun v C' L' => (∃ d, d < 4 ∧ dv = nI d ∧ kin ro (nI 0) (nI 40) ∧ v = some (.int (S 4 d 0 0)) ∧ isX E C' L' (w4 S 4 d 0 0 ro) N) ∧ L = L' ∧ kFr C L C' L') (fun X9 => (X9 = eIO ∧ ¬ kix dv 4) ∨ (X9 = eIA ∧ kix dv 4 ∧ ¬ (kin ro (nI 0) (nI 40)))) := by
  obtain ⟨vl2, hl2⟩ := hX.1.2.1.hd
  have hb1 := hO.1
  refine kMX.of htr (by decide) (Nat.le_of_ble_eq_true rfl) (fun Γ hl hR hN X hE hT => ?_)
  refine k_lo (lo' := [(0, .ref (L (1, 0, 0))), (1, .int dv), (2, .int ro)]) ⟨rfl, rfl, rfl, trivial⟩ ?_
  refine k_aload_n X dX5_setRoom_0 rfl rfl ?_
  refine k_iload_n X dX5_setRoom_1 rfl rfl ?_
  refine k_callVX (rest := []) X hT kv_X5_deviceAt kb_221 (c_deviceAt X.tr hX hO dv) (fun _ h => ⟨Or.inl h, rfl, rfl⟩) hX.1.1.1 rfl rfl rfl rfl rfl (Nat.le_of_ble_eq_true rfl) ⟨by rw [hR]; exact Nat.le_of_ble_eq_true rfl, by rw [hR]; exact Nat.le_of_ble_eq_true rfl⟩ ⟨by rw [hR]; exact Nat.le_of_ble_eq_true rfl, by rw [hR]; exact Nat.le_of_ble_eq_true rfl⟩ ⟨by omega, by omega⟩ dX5_setRoom_2 (fun v2 C9 L9 h9 => ?_)
  obtain ⟨⟨d, hd, rfl, rfl⟩, rfl, rfl⟩ := h9
  obtain ⟨vl8, hl8⟩ := (hX.2 d hd).2.2.2.1.hd
  obtain ⟨vl10, hl10⟩ := (hX.2 d hd).2.2.2.2.1.hd
  obtain ⟨vl12, hl12⟩ := (hX.2 d hd).2.2.2.2.2.1.hd
  have hb2 := (hO.2 d hd).1
  have hb3 := (hO.2 d hd).2.1
  have hb4 := (hO.2 d hd).2.2.1
  have hb5 := (hO.2 d hd).2.2.2.1
  have hb6 := (hO.2 d hd).2.2.2.2
  refine k_astore_n X dX5_setRoom_5 rfl (by rw [hN]; decide) ?_
  refine k_iload_n X dX5_setRoom_6 rfl rfl ?_
  refine k_iconst (v := (nI 0)) X dX5_setRoom_7 (by decide) ?_
  refine k_bipush (v := (nI 40)) X dX5_setRoom_8 (by decide) ?_
  refine k_callSX (rest := []) X hT ks_X5_checkRange kb_84 (c_checkRange X.tr ro (nI 0) (nI 40)) (fun _ h => ⟨Or.inr ⟨h.1, kix.of hd (by decide), h.2⟩, rfl, rfl⟩) rfl rfl (Nat.le_of_ble_eq_true rfl) ⟨by rw [hR]; exact Nat.le_of_ble_eq_true rfl, by rw [hR]; exact Nat.le_of_ble_eq_true rfl⟩ ⟨by rw [hR]; exact Nat.le_of_ble_eq_true rfl, by rw [hR]; exact Nat.le_of_ble_eq_true rfl⟩ ⟨by omega, by omega⟩ dX5_setRoom_10 (fun v10 C9 L9 h9 => ?_)
  obtain ⟨hp, rfl, rfl, rfl⟩ := h9
  refine k_aload_n X dX5_setRoom_13 rfl rfl ?_
  refine k_get0 X (hX.2 d hd).1 (q := (RX1, TX1, 9)) rfl inlX1 0 (by decide) kb_220 (Or.inl rfl) rfl rfl dX5_setRoom_14 ?_
  refine k_istore X dX5_setRoom_17 (by rw [hN]; decide) ?_
  refine k_aload_n X dX5_setRoom_19 rfl rfl ?_
  refine k_iload_n X dX5_setRoom_20 rfl rfl ?_
  refine k_put1 X (hX.2 d hd).1 (fs9 := [.int ro, .ref (L (6, d, 0)), .ref (L (7, d, 0)), .int (S 6 d 0 0), .ref (L (8, d, 0)), .int (S 7 d 0 0), .ref (L (10, d, 0)), .int (nI (N 4 d 0)), .ref (L (12, d, 0))]) (q := (RX1, TX1, 9)) rfl inlX1 tyX1 tyX1_ok nmX1 0 (by decide) kb_220 (Or.inl rfl) (Or.inl rfl) rfl rfl rfl (Nat.le_of_ble_eq_true rfl) rfl dX5_setRoom_21 ?_
  refine k_iload X dX5_setRoom_24 rfl ?_
  exact k_iret X hE dX5_setRoom_26 (by first | omega | exact Nat.le_of_ble_eq_true rfl | (dsimp only; omega)) (by first | omega | exact Nat.le_of_ble_eq_true rfl | (dsimp only; omega)) ⟨⟨d, hd, rfl, hp, rfl, isX.d5 (kup_s.trans (by simp [kDev, w4])) hX (fun f d' k z => kup_n (kneD2 z)) (fun _ _ _ _ => rfl) (fun f d' k j z => w4_n (by omega)) (fun _ _ _ _ => rfl)⟩, rfl, kFr.rf.up (by decide)⟩

set_option maxHeartbeats 4000000 in
set_option maxRecDepth 100000 in
theorem c_numberOf {l : Launch} (htr : l.stackTraces = false) {E : kE} {A : Nat → Prop} {C : kC} {L : kL} {S : kI4} {N : kN3} (hX : isX E C L S N) (hO : okX S N) (dv own : Int32) : kMX l yX5_numberOf cX5_numberOf 4 (some .int) 7 103 2 12 E A C L [.ref (L (1, 0, 0)), .int dv, .int own] (fun v C' L' => (∃ d, d < 4 ∧ dv = nI d ∧ ∃ k, k < N 2 d 0 ∧ own = nI (1000 + k) ∧ v = some (.int (S 9 d k 0))) ∧ L = L' ∧ C = C') (fun X9 => (X9 = eIO ∧ ¬ kix dv 4) ∨ (X9 = eIA ∧ ∃ d, d < 4 ∧ dv = nI d ∧ ∀ k, k < N 2 d 0 → own ≠ nI (1000 + k))) := by
  obtain ⟨vl2, hl2⟩ := hX.1.2.1.hd
  have hb1 := hO.1
  refine kMX.of htr (by decide) (Nat.le_of_ble_eq_true rfl) (fun Γ hl hR hN X hE hT => ?_)
  refine k_lo (lo' := [(0, .ref (L (1, 0, 0))), (1, .int dv), (2, .int own)]) ⟨rfl, rfl, rfl, trivial⟩ ?_
  refine k_aload_n X dX5_numberOf_0 rfl rfl ?_
  refine k_iload_n X dX5_numberOf_1 rfl rfl ?_
  refine k_callVX (rest := []) X hT kv_X5_deviceAt kb_221 (c_deviceAt X.tr hX hO dv) (fun _ h => ⟨Or.inl h, rfl, rfl⟩) hX.1.1.1 rfl rfl rfl rfl rfl (Nat.le_of_ble_eq_true rfl) ⟨by rw [hR]; exact Nat.le_of_ble_eq_true rfl, by rw [hR]; exact Nat.le_of_ble_eq_true rfl⟩ ⟨by rw [hR]; exact Nat.le_of_ble_eq_true rfl, by rw [hR]; exact Nat.le_of_ble_eq_true rfl⟩ ⟨by omega, by omega⟩ dX5_numberOf_2 (fun v2 C9 L9 h9 => ?_)
  obtain ⟨⟨d, hd, rfl, rfl⟩, rfl, rfl⟩ := h9
  obtain ⟨vl8, hl8⟩ := (hX.2 d hd).2.2.2.1.hd
  obtain ⟨vl10, hl10⟩ := (hX.2 d hd).2.2.2.2.1.hd
  obtain ⟨vl12, hl12⟩ := (hX.2 d hd).2.2.2.2.2.1.hd
  have hb2 := (hO.2 d hd).1
  have hb3 := (hO.2 d hd).2.1
  have hb4 := (hO.2 d hd).2.2.1
  have hb5 := (hO.2 d hd).2.2.2.1
  have hb6 := (hO.2 d hd).2.2.2.2
  refine k_iload_n X dX5_numberOf_5 rfl rfl ?_
  refine k_callV (rest := []) X kv_X1_madeJob kb_354 (c_madeJob X.tr hX hO hd own) (hX.2 d hd).1 rfl rfl rfl rfl rfl (Nat.le_of_ble_eq_true rfl) ⟨by rw [hR]; exact Nat.le_of_ble_eq_true rfl, by rw [hR]; exact Nat.le_of_ble_eq_true rfl⟩ ⟨by rw [hR]; exact Nat.le_of_ble_eq_true rfl, by rw [hR]; exact Nat.le_of_ble_eq_true rfl⟩ dX5_numberOf_6 (fun v6 C9 L9 h9 => ?_)
  obtain ⟨(⟨k, hk, hjob, rfl⟩ | ⟨hno, rfl⟩), rfl, rfl⟩ := h9
  ·
    refine k_astore_n X dX5_numberOf_9 rfl (by rw [hN]; decide) ?_
    refine k_aload_n X dX5_numberOf_10 rfl rfl ?_
    refine k_ifnonnull (tgt := 24) X dX5_numberOf_11 (by decide) ?_
    refine k_aload_n X dX5_numberOf_24 rfl rfl ?_
    refine k_get0 X ((hX.2 d hd).2.2.2.2.2.2.2.1 k hk).1 (q := (RX4, TX4, 2)) rfl inlX4 0 (by decide) kb_441 (Or.inl rfl) rfl rfl dX5_numberOf_25 ?_
    exact k_iret X hE dX5_numberOf_28 (by first | omega | exact Nat.le_of_ble_eq_true rfl | (dsimp only; omega)) (by first | omega | exact Nat.le_of_ble_eq_true rfl | (dsimp only; omega)) ⟨⟨d, hd, rfl, k, hk, hjob, rfl⟩, rfl, rfl⟩
  ·
    refine k_astore_nN X dX5_numberOf_9 rfl (by rw [hN]; decide) ?_
    refine k_aload_nN X dX5_numberOf_10 rfl rfl ?_
    refine k_ifnonnullN X dX5_numberOf_11 ?_
    exact k_thrA X hT (Or.inr ⟨rfl, d, hd, rfl, hno⟩) (is := 129) (text := "the device made no such job") (by simp [kStr]) dX5_numberOf_14 dX5_numberOf_17 dX5_numberOf_18 dX5_numberOf_20 dX5_numberOf_23 (by rw [hR]; exact Nat.lt_of_lt_of_le (by decide : 5 < 6) (Nat.le_of_ble_eq_true rfl)) (by rw [hR]; exact Nat.le_of_ble_eq_true rfl) (by rw [hR]; exact Nat.le_of_ble_eq_true rfl) (by rw [hR]; exact Nat.le_of_ble_eq_true rfl) (by omega) (by omega)

set_option maxHeartbeats 4000000 in
set_option maxRecDepth 100000 in
theorem c_holds {l : Launch} (htr : l.stackTraces = false) {E : kE} {A : Nat → Prop} {C : kC} {L : kL} {S : kI4} {N : kN3} (hX : isX E C L S N) (hO : okX S N) (dv job : Int32) : kMX l yX5_holds cX5_holds 3 (some .boolean) 7 108 1 6 E A C L [.ref (L (1, 0, 0)), .int dv, .int job] (fun v C' L' => (∃ d, d < 4 ∧ dv = nI d ∧ ∃ o, kHf S N d job o ∧ v = some (.int (match o with | none => nI 0 | some _ => nI 1))) ∧ L = L' ∧ C = C') (fun X9 => (X9 = eIO ∧ ¬ kix dv 4)) := by
  obtain ⟨vl2, hl2⟩ := hX.1.2.1.hd
  have hb1 := hO.1
  refine kMX.of htr (by decide) (Nat.le_of_ble_eq_true rfl) (fun Γ hl hR hN X hE hT => ?_)
  refine k_lo (lo' := [(0, .ref (L (1, 0, 0))), (1, .int dv), (2, .int job)]) ⟨rfl, rfl, rfl, trivial⟩ ?_
  refine k_aload_n X dX5_holds_0 rfl rfl ?_
  refine k_iload_n X dX5_holds_1 rfl rfl ?_
  refine k_callVX (rest := []) X hT kv_X5_deviceAt kb_221 (c_deviceAt X.tr hX hO dv) (fun _ h => ⟨h, rfl, rfl⟩) hX.1.1.1 rfl rfl rfl rfl rfl (Nat.le_of_ble_eq_true rfl) ⟨by rw [hR]; exact Nat.le_of_ble_eq_true rfl, by rw [hR]; exact Nat.le_of_ble_eq_true rfl⟩ ⟨by rw [hR]; exact Nat.le_of_ble_eq_true rfl, by rw [hR]; exact Nat.le_of_ble_eq_true rfl⟩ ⟨by omega, by omega⟩ dX5_holds_2 (fun v2 C9 L9 h9 => ?_)
  obtain ⟨⟨d, hd, rfl, rfl⟩, rfl, rfl⟩ := h9
  obtain ⟨vl8, hl8⟩ := (hX.2 d hd).2.2.2.1.hd
  obtain ⟨vl10, hl10⟩ := (hX.2 d hd).2.2.2.2.1.hd
  obtain ⟨vl12, hl12⟩ := (hX.2 d hd).2.2.2.2.2.1.hd
  have hb2 := (hO.2 d hd).1
  have hb3 := (hO.2 d hd).2.1
  have hb4 := (hO.2 d hd).2.2.1
  have hb5 := (hO.2 d hd).2.2.2.1
  have hb6 := (hO.2 d hd).2.2.2.2
  refine k_iload_n X dX5_holds_5 rfl rfl ?_
  refine k_callV (rest := []) X kv_X1_heldFields kb_264 (c_heldFields X.tr hX hO hd job) (hX.2 d hd).1 rfl rfl rfl rfl rfl (Nat.le_of_ble_eq_true rfl) ⟨by rw [hR]; exact Nat.le_of_ble_eq_true rfl, by rw [hR]; exact Nat.le_of_ble_eq_true rfl⟩ ⟨by rw [hR]; exact Nat.le_of_ble_eq_true rfl, by rw [hR]; exact Nat.le_of_ble_eq_true rfl⟩ dX5_holds_6 (fun v6 C9 L9 h9 => ?_)
  obtain ⟨⟨o, rfl, hf⟩, rfl, rfl⟩ := h9
  cases o with
  | none =>
    simp only [kRo, kpush]
    refine k_ifnullN (tgt := 16) X dX5_holds_9 (by decide) ?_
    refine k_iconst (v := (nI 0)) X dX5_holds_16 (by decide) ?_
    exact k_zret X hE kz0 dX5_holds_17 (by first | omega | exact Nat.le_of_ble_eq_true rfl | (dsimp only; omega)) (by first | omega | exact Nat.le_of_ble_eq_true rfl | (dsimp only; omega)) ⟨⟨d, hd, rfl, _, hf, rfl⟩, rfl, rfl⟩
  | some t =>
    simp only [kRo, kpush]
    refine k_ifnull X dX5_holds_9 ?_
    refine k_iconst (v := (nI 1)) X dX5_holds_12 (by decide) ?_
    refine k_goto (tgt := 17) X dX5_holds_13 (by decide) ?_
    exact k_zret X hE kz1 dX5_holds_17 (by first | omega | exact Nat.le_of_ble_eq_true rfl | (dsimp only; omega)) (by first | omega | exact Nat.le_of_ble_eq_true rfl | (dsimp only; omega)) ⟨⟨d, hd, rfl, _, hf, rfl⟩, rfl, rfl⟩

set_option maxHeartbeats 4000000 in
set_option maxRecDepth 100000 in
theorem c_fieldsHeld {l : Launch} (htr : l.stackTraces = false) {E : kE} {A : Nat → Prop} {C : kC} {L : kL} {S : kI4} {N : kN3} (hX : isX E C L S N) (hO : okX S N) {d : Nat} (hd : d < 4) (job : Int32) : kMX l yX5_fieldsHeld cX5_fieldsHeld 3 (some (.object "FieldStore$Fields")) 6 108 1 6 E A C L [.ref (L (5, d, 0)), .int job] (fun v C' L' => (∃ t, v = some (.ref (L t)) ∧ kHf S N d job (some t)) ∧ L = L' ∧ C = C') (fun X9 => X9 = eIS ∧ kHf S N d job none) := by
  refine kMX.of htr (by decide) (Nat.le_of_ble_eq_true rfl) (fun Γ hl hR hN X hE hT => ?_)
  refine k_lo (lo' := [(0, .ref (L (5, d, 0))), (1, .int job)]) ⟨rfl, rfl, trivial⟩ ?_
  refine k_aload_n X dX5_fieldsHeld_0 rfl rfl ?_
  refine k_iload_n X dX5_fieldsHeld_1 rfl rfl ?_
  refine k_callV (rest := []) X kv_X1_heldFields kb_264 (c_heldFields X.tr hX hO hd job) (hX.2 d hd).1 rfl rfl rfl rfl rfl (Nat.le_of_ble_eq_true rfl) ⟨by rw [hR]; exact Nat.le_of_ble_eq_true rfl, by rw [hR]; exact Nat.le_of_ble_eq_true rfl⟩ ⟨by rw [hR]; exact Nat.le_of_ble_eq_true rfl, by rw [hR]; exact Nat.le_of_ble_eq_true rfl⟩ dX5_fieldsHeld_2 (fun v2 C9 L9 h9 => ?_)
  obtain ⟨⟨o, rfl, hf⟩, rfl, rfl⟩ := h9
  cases o with
  | none =>
    simp only [kRo, kpush]
    refine k_astore_nN X dX5_fieldsHeld_5 rfl (by rw [hN]; decide) ?_
    refine k_aload_nN X dX5_fieldsHeld_6 rfl rfl ?_
    refine k_ifnonnullN X dX5_fieldsHeld_7 ?_
    exact k_thrS X hT ⟨rfl, hf⟩ (is := 213) (text := "the device does not hold the job") (by simp [kStr]) dX5_fieldsHeld_10 dX5_fieldsHeld_13 dX5_fieldsHeld_14 dX5_fieldsHeld_16 dX5_fieldsHeld_19 (by rw [hR]; exact Nat.lt_of_lt_of_le (by decide : 5 < 6) (Nat.le_of_ble_eq_true rfl)) (by rw [hR]; exact Nat.le_of_ble_eq_true rfl) (by rw [hR]; exact Nat.le_of_ble_eq_true rfl) (by rw [hR]; exact Nat.le_of_ble_eq_true rfl) (by omega) (by omega)
  | some t =>
    simp only [kRo, kpush]
    refine k_astore_n X dX5_fieldsHeld_5 rfl (by rw [hN]; decide) ?_
    refine k_aload_n X dX5_fieldsHeld_6 rfl rfl ?_
    refine k_ifnonnull (tgt := 20) X dX5_fieldsHeld_7 (by decide) ?_
    refine k_aload_n X dX5_fieldsHeld_20 rfl rfl ?_
    exact k_aret X hE (Or.inl ⟨_, rfl⟩) (Or.inr ⟨_, rfl⟩) dX5_fieldsHeld_21 (by first | omega | exact Nat.le_of_ble_eq_true rfl | (dsimp only; omega)) (by first | omega | exact Nat.le_of_ble_eq_true rfl | (dsimp only; omega)) ⟨⟨t, rfl, hf⟩, rfl, rfl⟩

set_option maxHeartbeats 4000000 in
set_option maxRecDepth 100000 in
theorem c_refusedAt {l : Launch} (htr : l.stackTraces = false) {E : kE} {A : Nat → Prop} {C : kC} {L : kL} {S : kI4} {N : kN3} (hX : isX E C L S N) (hO : okX S N) (dv pl : Int32) : kMX l yX5_refusedAt cX5_refusedAt 4 (some (.object "FieldStore$Act")) 7 103 2 12 E A C L [.ref (L (1, 0, 0)), .int dv, .int pl] (fun v C' L' => (∃ d, d < 4 ∧ dv = nI d ∧ ∃ i, i < N 5 d 0 ∧ pl = nI i ∧ v = some (.ref (L (19, d, N 6 d i)))) ∧ L = L' ∧ C = C') (fun X9 => (X9 = eIO ∧ ¬ kix dv 4) ∨ (X9 = eIO ∧ ∃ d, d < 4 ∧ dv = nI d ∧ ¬ kix pl (N 5 d 0))) := by
  obtain ⟨vl2, hl2⟩ := hX.1.2.1.hd
  have hb1 := hO.1
  refine kMX.of htr (by decide) (Nat.le_of_ble_eq_true rfl) (fun Γ hl hR hN X hE hT => ?_)
  refine k_lo (lo' := [(0, .ref (L (1, 0, 0))), (1, .int dv), (2, .int pl)]) ⟨rfl, rfl, rfl, trivial⟩ ?_
  refine k_aload_n X dX5_refusedAt_0 rfl rfl ?_
  refine k_iload_n X dX5_refusedAt_1 rfl rfl ?_
  refine k_callVX (rest := []) X hT kv_X5_deviceAt kb_221 (c_deviceAt X.tr hX hO dv) (fun _ h => ⟨Or.inl h, rfl, rfl⟩) hX.1.1.1 rfl rfl rfl rfl rfl (Nat.le_of_ble_eq_true rfl) ⟨by rw [hR]; exact Nat.le_of_ble_eq_true rfl, by rw [hR]; exact Nat.le_of_ble_eq_true rfl⟩ ⟨by rw [hR]; exact Nat.le_of_ble_eq_true rfl, by rw [hR]; exact Nat.le_of_ble_eq_true rfl⟩ ⟨by omega, by omega⟩ dX5_refusedAt_2 (fun v2 C9 L9 h9 => ?_)
  obtain ⟨⟨d, hd, rfl, rfl⟩, rfl, rfl⟩ := h9
  obtain ⟨vl8, hl8⟩ := (hX.2 d hd).2.2.2.1.hd
  obtain ⟨vl10, hl10⟩ := (hX.2 d hd).2.2.2.2.1.hd
  obtain ⟨vl12, hl12⟩ := (hX.2 d hd).2.2.2.2.2.1.hd
  have hb2 := (hO.2 d hd).1
  have hb3 := (hO.2 d hd).2.1
  have hb4 := (hO.2 d hd).2.2.1
  have hb5 := (hO.2 d hd).2.2.2.1
  have hb6 := (hO.2 d hd).2.2.2.2
  refine k_get0 X (hX.2 d hd).1 (q := (RX1, TX1, 9)) rfl inlX1 8 (by decide) kb_449 (Or.inl rfl) rfl rfl dX5_refusedAt_5 ?_
  refine k_astore_n X dX5_refusedAt_8 rfl (by rw [hN]; decide) ?_
  refine k_iload_n X dX5_refusedAt_9 rfl rfl ?_
  refine k_if_lt (tgt := 21) X dX5_refusedAt_10 (by decide) (fun c10 => ?_) (fun c10 => ?_)
  ·
    exact k_thrB X hT (Or.inr ⟨rfl, d, hd, rfl, by first | exact fun z => z.1 c10 | exact fun z => c18 z.2⟩) (is := 211) (text := "no such place") (by simp [kStr]) dX5_refusedAt_21 dX5_refusedAt_24 dX5_refusedAt_25 dX5_refusedAt_27 dX5_refusedAt_30 (by rw [hR]; exact Nat.lt_of_lt_of_le (by decide : 5 < 6) (Nat.le_of_ble_eq_true rfl)) (by rw [hR]; exact Nat.le_of_ble_eq_true rfl) (by rw [hR]; exact Nat.le_of_ble_eq_true rfl) (by rw [hR]; exact Nat.le_of_ble_eq_true rfl) (by omega) (by omega)
  ·
    refine k_iload_n X dX5_refusedAt_13 rfl rfl ?_
    refine k_aload_n X dX5_refusedAt_14 rfl rfl ?_
    refine k_callV (rest := [.int pl]) X kv_Jx4a65c_size_8abf5 kb_63 (c_Ls_size X.tr (hX.2 d hd).2.2.2.2.2.1) hl12 rfl rfl rfl rfl rfl (Nat.le_of_ble_eq_true rfl) ⟨by rw [hR]; exact Nat.le_of_ble_eq_true rfl, by rw [hR]; exact Nat.le_of_ble_eq_true rfl⟩ ⟨by rw [hR]; exact Nat.le_of_ble_eq_true rfl, by rw [hR]; exact Nat.le_of_ble_eq_true rfl⟩ dX5_refusedAt_15 (fun v15 C9 L9 h9 => ?_)
    obtain ⟨rfl, rfl, rfl⟩ := h9
    refine k_icmp_lt (tgt := 31) X dX5_refusedAt_18 (by decide) (fun c18 => ?_) (fun c18 => ?_)
    ·
      refine k_aload_n X dX5_refusedAt_31 rfl rfl ?_
      refine k_iload_n X dX5_refusedAt_32 rfl rfl ?_
      obtain ⟨i, hi, rfl⟩ := kix.ex (x := pl) (n := N 5 d 0) ⟨c10, c18⟩ (by omega)
      refine k_callV (rest := []) X kv_Jx4a65c_get_915e3 kb_175 (c_Ls_get X.tr (hX.2 d hd).2.2.2.2.2.1 i hi (by omega)) hl12 rfl rfl rfl rfl rfl (Nat.le_of_ble_eq_true rfl) ⟨by rw [hR]; exact Nat.le_of_ble_eq_true rfl, by rw [hR]; exact Nat.le_of_ble_eq_true rfl⟩ ⟨by rw [hR]; exact Nat.le_of_ble_eq_true rfl, by rw [hR]; exact Nat.le_of_ble_eq_true rfl⟩ dX5_refusedAt_33 (fun v33 C9 L9 h9 => ?_)
      obtain ⟨rfl, rfl, rfl⟩ := h9
      refine k_cast X ((hX.2 d hd).2.2.2.2.2.2.2.2 _ (hb6 i hi)) (r := (RX0, TX0, 5)) rfl rfl kb_462 dX5_refusedAt_36 ?_
      exact k_aret X hE (Or.inl ⟨_, rfl⟩) (Or.inr ⟨_, rfl⟩) dX5_refusedAt_39 (by first | omega | exact Nat.le_of_ble_eq_true rfl | (dsimp only; omega)) (by first | omega | exact Nat.le_of_ble_eq_true rfl | (dsimp only; omega)) ⟨⟨d, hd, rfl, i, hi, rfl, rfl⟩, rfl, rfl⟩
    ·
      exact k_thrB X hT (Or.inr ⟨rfl, d, hd, rfl, by first | exact fun z => z.1 c10 | exact fun z => c18 z.2⟩) (is := 211) (text := "no such place") (by simp [kStr]) dX5_refusedAt_21 dX5_refusedAt_24 dX5_refusedAt_25 dX5_refusedAt_27 dX5_refusedAt_30 (by rw [hR]; exact Nat.lt_of_lt_of_le (by decide : 5 < 6) (Nat.le_of_ble_eq_true rfl)) (by rw [hR]; exact Nat.le_of_ble_eq_true rfl) (by rw [hR]; exact Nat.le_of_ble_eq_true rfl) (by rw [hR]; exact Nat.le_of_ble_eq_true rfl) (by omega) (by omega)

set_option maxHeartbeats 4000000 in
set_option maxRecDepth 100000 in
theorem c_reason {l : Launch} (htr : l.stackTraces = false) {E : kE} {A : Nat → Prop} {C : kC} {L : kL} {S : kI4} {N : kN3} (hX : isX E C L S N) (hO : okX S N) (dv pl : Int32) : kMX l yX5_reason cX5_reason 3 (some .int) 8 126 2 12 E A C L [.ref (L (1, 0, 0)), .int dv, .int pl] (fun v C' L' => (∃ d, d < 4 ∧ dv = nI d ∧ ∃ i, i < N 5 d 0 ∧ pl = nI i ∧ v = some (.int (S 11 d (N 6 d i) 4))) ∧ L = L' ∧ C = C') (fun X9 => (X9 = eIO ∧ ¬ kix dv 4) ∨ (X9 = eIO ∧ ∃ d, d < 4 ∧ dv = nI d ∧ ¬ kix pl (N 5 d 0))) := by
  obtain ⟨vl2, hl2⟩ := hX.1.2.1.hd
  have hb1 := hO.1
  refine kMX.of htr (by decide) (Nat.le_of_ble_eq_true rfl) (fun Γ hl hR hN X hE hT => ?_)
  refine k_lo (lo' := [(0, .ref (L (1, 0, 0))), (1, .int dv), (2, .int pl)]) ⟨rfl, rfl, rfl, trivial⟩ ?_
  refine k_aload_n X dX5_reason_0 rfl rfl ?_
  refine k_iload_n X dX5_reason_1 rfl rfl ?_
  refine k_iload_n X dX5_reason_2 rfl rfl ?_
  refine k_callVX (rest := []) X hT kv_X5_refusedAt kb_458 (c_refusedAt X.tr hX hO dv pl) (fun _ h => ⟨h, rfl, rfl⟩) hX.1.1.1 rfl rfl rfl rfl rfl (Nat.le_of_ble_eq_true rfl) ⟨by rw [hR]; exact Nat.le_of_ble_eq_true rfl, by rw [hR]; exact Nat.le_of_ble_eq_true rfl⟩ ⟨by rw [hR]; exact Nat.le_of_ble_eq_true rfl, by rw [hR]; exact Nat.le_of_ble_eq_true rfl⟩ ⟨by omega, by omega⟩ dX5_reason_3 (fun v3 C9 L9 h9 => ?_)
  obtain ⟨⟨d, hd, rfl, i, hi, rfl, rfl⟩, rfl, rfl⟩ := h9
  have hb6 := (hO.2 d hd).2.2.2.2
  refine k_get0 X ((hX.2 d hd).2.2.2.2.2.2.2.2 _ (hb6 i hi)) (q := (RX0, TX0, 5)) rfl inlX0 4 (by decide) kb_457 (Or.inl rfl) rfl rfl dX5_reason_6 ?_
  exact k_iret X hE dX5_reason_9 (by first | omega | exact Nat.le_of_ble_eq_true rfl | (dsimp only; omega)) (by first | omega | exact Nat.le_of_ble_eq_true rfl | (dsimp only; omega)) ⟨⟨d, hd, rfl, i, hi, rfl, rfl⟩, rfl, rfl⟩

set_option maxHeartbeats 4000000 in
set_option maxRecDepth 100000 in
theorem c_refusedValue {l : Launch} (htr : l.stackTraces = false) {E : kE} {A : Nat → Prop} {C : kC} {L : kL} {S : kI4} {N : kN3} (hX : isX E C L S N) (hO : okX S N) (dv pl : Int32) : kMX l yX5_refusedValue cX5_refusedValue 3 (some .int) 8 126 2 12 E A C L [.ref (L (1, 0, 0)), .int dv, .int pl] (fun v C' L' => (∃ d, d < 4 ∧ dv = nI d ∧ ∃ i, i < N 5 d 0 ∧ pl = nI i ∧ v = some (.int (S 11 d (N 6 d i) 2))) ∧ L = L' ∧ C = C') (fun X9 => (X9 = eIO ∧ ¬ kix dv 4) ∨ (X9 = eIO ∧ ∃ d, d < 4 ∧ dv = nI d ∧ ¬ kix pl (N 5 d 0))) := by
  obtain ⟨vl2, hl2⟩ := hX.1.2.1.hd
  have hb1 := hO.1
  refine kMX.of htr (by decide) (Nat.le_of_ble_eq_true rfl) (fun Γ hl hR hN X hE hT => ?_)
  refine k_lo (lo' := [(0, .ref (L (1, 0, 0))), (1, .int dv), (2, .int pl)]) ⟨rfl, rfl, rfl, trivial⟩ ?_
  refine k_aload_n X dX5_refusedValue_0 rfl rfl ?_
  refine k_iload_n X dX5_refusedValue_1 rfl rfl ?_
  refine k_iload_n X dX5_refusedValue_2 rfl rfl ?_
  refine k_callVX (rest := []) X hT kv_X5_refusedAt kb_458 (c_refusedAt X.tr hX hO dv pl) (fun _ h => ⟨h, rfl, rfl⟩) hX.1.1.1 rfl rfl rfl rfl rfl (Nat.le_of_ble_eq_true rfl) ⟨by rw [hR]; exact Nat.le_of_ble_eq_true rfl, by rw [hR]; exact Nat.le_of_ble_eq_true rfl⟩ ⟨by rw [hR]; exact Nat.le_of_ble_eq_true rfl, by rw [hR]; exact Nat.le_of_ble_eq_true rfl⟩ ⟨by omega, by omega⟩ dX5_refusedValue_3 (fun v3 C9 L9 h9 => ?_)
  obtain ⟨⟨d, hd, rfl, i, hi, rfl, rfl⟩, rfl, rfl⟩ := h9
  have hb6 := (hO.2 d hd).2.2.2.2
  refine k_get0 X ((hX.2 d hd).2.2.2.2.2.2.2.2 _ (hb6 i hi)) (q := (RX0, TX0, 5)) rfl inlX0 2 (by decide) kb_353 (Or.inl rfl) rfl rfl dX5_refusedValue_6 ?_
  exact k_iret X hE dX5_refusedValue_9 (by first | omega | exact Nat.le_of_ble_eq_true rfl | (dsimp only; omega)) (by first | omega | exact Nat.le_of_ble_eq_true rfl | (dsimp only; omega)) ⟨⟨d, hd, rfl, i, hi, rfl, rfl⟩, rfl, rfl⟩
end
section
theorem kLR {L9 L : kL} {t : kT} (e : L9 t = L t) : (some (.ref (L t)) : Option Value) = some (.ref (L9 t)) := by rw [e]
theorem kHf.fh {S : kI4} {N : kN3} {d : Nat} {x : Int32} {t : kT} (h : kHf S N d x (some t)) : ∃ ff fS kk, t = (ff, d, kk) ∧ kFh N d ff fS kk := by
  rcases h with ⟨k, h1, h2, h3, h4⟩ | ⟨h1, r, h2, ⟨n, h3, h4, h5, ⟨h6, h7⟩ | ⟨h6, h7⟩⟩ | ⟨h3, h4⟩⟩
  · exact ⟨18, 10, k, Option.some.inj h4, Or.inr ⟨rfl, rfl, h1⟩⟩
  · exact ⟨16, 8, n, Option.some.inj h7, Or.inl ⟨rfl, rfl, h6⟩⟩
  · cases h7
  · cases h4
theorem isX.addJn {E : kE} {C C' : kC} {L L' : kL} {S S' : kI4} {N N' : kN3} {n : Nat} (hn : N 1 0 0 = n) (hl : kLs E C' L' 2 3 0 (n + 1) (fun j => L' (14, j, 0))) (hN1 : N' 1 0 0 = n + 1) (hj : C' (14, n, 0) = some (.inr (4, [.int (S' 1 n 0 0), .int (S' 2 n 0 0), .ref (L' (15, n, 0))]))) (hv : C' (15, n, 0) = some (kF S' 3 n 0)) (h : isX E C L S N) (hC : ∀ f d' k, ¬ (f = 2 ∨ f = 3 ∨ ((f = 14 ∨ f = 15) ∧ d' = n)) → C' (f, d', k) = C (f, d', k)) (hL : ∀ f d' k, ¬ (f = 3 ∨ ((f = 14 ∨ f = 15) ∧ d' = n)) → L' (f, d', k) = L (f, d', k)) (hS : ∀ f d' k j, ¬ ((f = 1 ∨ f = 2 ∨ f = 3) ∧ d' = n) → S' f d' k j = S f d' k j) (hN : ∀ f d' k, f ≠ 1 → N' f d' k = N f d' k) : isX E C' L' S' N' := by
  subst hn
  exact isX.addJ hl hN1 hj hv h hC hL hS hN
def sAddJ (S : kI4) (n : Nat) (cr si : Int32) : kI4 := fun f i k j => if i = n ∧ k = 0 then (if f = 1 ∧ j = 0 then si else if f = 2 ∧ j = 0 then cr else if f = 3 ∧ j < 4 then nI 0 else S f i k j) else S f i k j
theorem sAddJ_n {S : kI4} {n : Nat} {cr si : Int32} {f i k j : Nat} (z : ¬ ((f = 1 ∨ f = 2 ∨ f = 3) ∧ i = n)) : sAddJ S n cr si f i k j = S f i k j := by
  unfold sAddJ
  by_cases h : i = n ∧ k = 0
  · rw [if_pos h, if_neg (by omega), if_neg (by omega), if_neg (by omega)]
  · rw [if_neg h]
def nAddJ (N : kN3) : kN3 := w3 N 1 0 0 (N 1 0 0 + 1)
theorem okX.addJ {S S' : kI4} {N : kN3} (h : okX S N) (hn : N 1 0 0 < 40) : okX S' (nAddJ N) := by
  unfold nAddJ
  refine ⟨by rw [w3_s]; omega, fun d' hd' => ?_⟩
  have h2 := h.2 d' hd'
  rw [w3_n (show ¬ (2 = 1 ∧ _) by omega), w3_n (show ¬ (3 = 1 ∧ _) by omega), w3_n (show ¬ (4 = 1 ∧ _) by omega), w3_n (show ¬ (5 = 1 ∧ _) by omega)]
  exact ⟨h2.1, h2.2.1, h2.2.2.1, h2.2.2.2.1, fun i hi => by rw [w3_n (by omega)]; exact h2.2.2.2.2 i hi⟩

set_option maxHeartbeats 4000000 in
set_option maxRecDepth 100000 in
theorem c_add {l : Launch} (htr : l.stackTraces = false) {E : kE} {A : Nat → Prop} {C : kC} {L : kL} {S : kI4} {N : kN3} (hX : isX E C L S N) (hO : okX S N) (cr si : Int32) : kMX l yX5_add cX5_add 3 (some .int) 7 171 6 110 E A C L [.ref (L (1, 0, 0)), .int cr, .int si] (fun v C' L' => ((kin cr (nI 0) (nI 3) ∧ kin si (nI 0) (nI 9)) ∧ N 1 0 0 < 40 ∧ v = some (.int (nI (N 1 0 0))) ∧ isX E C' L' (sAddJ S (N 1 0 0) cr si) (nAddJ N)) ∧ kFr C L C' L' ∧ ∀ t : kT, t.1 ≤ 1 → L' t = L t) (fun X9 => (X9 = eIA ∧ ¬ (kin cr (nI 0) (nI 3) ∧ kin si (nI 0) (nI 9))) ∨ (X9 = eIS ∧ kin cr (nI 0) (nI 3) ∧ kin si (nI 0) (nI 9) ∧ N 1 0 0 = 40)) := by
  obtain ⟨vl2, hl2⟩ := hX.1.2.1.hd
  have hb1 := hO.1
  refine kMX.of htr (by decide) (Nat.le_of_ble_eq_true rfl) (fun Γ hl hR hN X hE hT => ?_)
  refine k_lo (lo' := [(0, .ref (L (1, 0, 0))), (1, .int cr), (2, .int si)]) ⟨rfl, rfl, rfl, trivial⟩ ?_
  refine k_iload_n X dX5_add_0 rfl rfl ?_
  refine k_iconst (v := (nI 0)) X dX5_add_1 (by decide) ?_
  refine k_iconst (v := (nI 3)) X dX5_add_2 (by decide) ?_
  refine k_callSX (rest := []) X hT ks_X5_checkRange kb_84 (c_checkRange X.tr cr (nI 0) (nI 3)) (fun _ h => ⟨Or.inl ⟨h.1, fun z => h.2 z.1⟩, rfl, rfl⟩) rfl rfl (Nat.le_of_ble_eq_true rfl) ⟨by rw [hR]; exact Nat.le_of_ble_eq_true rfl, by rw [hR]; exact Nat.le_of_ble_eq_true rfl⟩ ⟨by rw [hR]; dsimp only; omega, by rw [hR]; dsimp only; omega⟩ ⟨by omega, by omega⟩ dX5_add_3 (fun v3 C9 L9 h9 => ?_)
  obtain ⟨hp, rfl, rfl, rfl⟩ := h9
  refine k_iload_n X dX5_add_6 rfl rfl ?_
  refine k_iconst (v := (nI 0)) X dX5_add_7 (by decide) ?_
  refine k_bipush (v := (nI 9)) X dX5_add_8 (by decide) ?_
  refine k_callSX (rest := []) X hT ks_X5_checkRange kb_84 (c_checkRange X.tr si (nI 0) (nI 9)) (fun _ h => ⟨Or.inl ⟨h.1, fun z => h.2 z.2⟩, rfl, rfl⟩) rfl rfl (Nat.le_of_ble_eq_true rfl) ⟨by rw [hR]; exact Nat.le_of_ble_eq_true rfl, by rw [hR]; exact Nat.le_of_ble_eq_true rfl⟩ ⟨by rw [hR]; dsimp only; omega, by rw [hR]; dsimp only; omega⟩ ⟨by omega, by omega⟩ dX5_add_10 (fun v10 C9 L9 h9 => ?_)
  obtain ⟨hq, rfl, rfl, rfl⟩ := h9
  refine k_aload_n X dX5_add_13 rfl rfl ?_
  refine k_get0 X hX.1.1.1 (q := (RX5, TX5, 3)) rfl inlX5 0 (by decide) kb_13 (Or.inl rfl) rfl rfl dX5_add_14 ?_
  refine k_callV (rest := []) X kv_Jx4a65c_size_8abf5 kb_63 (c_Ls_size X.tr hX.1.2.1) hl2 rfl rfl rfl rfl rfl (Nat.le_of_ble_eq_true rfl) ⟨by rw [hR]; exact Nat.le_of_ble_eq_true rfl, by rw [hR]; exact Nat.le_of_ble_eq_true rfl⟩ ⟨by rw [hR]; dsimp only; omega, by rw [hR]; dsimp only; omega⟩ dX5_add_17 (fun v17 C9 L9 h9 => ?_)
  obtain ⟨rfl, rfl, rfl⟩ := h9
  refine k_bipush (v := (nI 40)) X dX5_add_20 (by decide) ?_
  refine k_icmp_lt (tgt := 35) X dX5_add_22 (by decide) (fun c22 => ?_) (fun c22 => ?_)
  ·
    refine k_aload_n X dX5_add_35 rfl rfl ?_
    refine k_get0 X hX.1.1.1 (q := (RX5, TX5, 3)) rfl inlX5 0 (by decide) kb_13 (Or.inl rfl) rfl rfl dX5_add_36 ?_
    have h40 : N 1 0 0 < 40 := (nI_ltI (by omega) (by decide)).mp c22
    refine k_new0 X (14, (N 1 0 0), 0) (ci := 4) (q := (RX3, TX3, 3)) rfl inlX3 tyX3 tyX3_ok kb_81 kb_82 kb_83 (fs := [.int 0, .int 0, .null]) (fun j hj => by rcases (show j = 0 ∨ j = 1 ∨ j = 2 from by have : j < 3 := hj; omega) with rfl | rfl | rfl <;> rfl) dX5_add_39 (by rw [hR]; dsimp only; omega) (by rw [hR]; dsimp only; omega) (fun q9 => ?_)
    refine k_dup X dX5_add_42 rfl ?_
    refine k_iload_n X dX5_add_43 rfl rfl ?_
    refine k_iload_n X dX5_add_44 rfl rfl ?_
    refine k_callI (rest := [.ref q9, .ref (L (2, 0, 0))]) X ki_X3_init kb_89 (c_X3_init X.tr (t := (14, (N 1 0 0), 0)) (tF := (15, (N 1 0 0), 0)) cr si (kne1 (by decide)) kup_s kup_s) rfl rfl (Nat.le_of_ble_eq_true rfl) ⟨by rw [hR]; exact Nat.le_of_ble_eq_true rfl, by rw [hR]; exact Nat.le_of_ble_eq_true rfl⟩ ⟨by rw [hR]; dsimp only; omega, by rw [hR]; dsimp only; omega⟩ dX5_add_45 (fun v45 C9 L9 h9 => ?_)
    obtain ⟨q8, rfl, rfl, i1, i2, i3⟩ := h9
    have hCk : ∀ t : kT, t ≠ (14, (N 1 0 0), 0) → t ≠ (15, (N 1 0 0), 0) → C9 t = C t := fun t h1 h2 => (i3 t h1 h2).trans (kup_n h1)
    have hLk : ∀ t : kT, t ≠ (14, (N 1 0 0), 0) → t ≠ (15, (N 1 0 0), 0) → (kup (kup L (14, (N 1 0 0), 0) q9) (15, (N 1 0 0), 0) q8) t = L t := fun t h1 h2 => (kup_n h2).trans (kup_n h1)
    have hq9 : (kup (kup L (14, (N 1 0 0), 0) q9) (15, (N 1 0 0), 0) q8) (14, (N 1 0 0), 0) = q9 := (kup_n (kne1 (by decide))).trans kup_s
    obtain ⟨vl2b, hl2b⟩ := hX.1.2.1.hd
    have hn9 : N 1 0 0 = (N 1 0 0) := rfl
    have hl9 := hX.1.2.1
    rw [hn9] at hl9
    refine k_callV (rest := []) X kv_Jx4a65c_add_9ea2d kb_106 (c_Ls_addA X.tr (fh := 2) (fa := 3) (d := 0) (ft := 14) (dt := (N 1 0 0)) (kt := 0) (ci := 4) (r := (RX3, TX3, 3)) (hLk _ (kne1 (by decide)) (kne1 (by decide))) hq9 (hl9.keep (hCk _ (kne1 (by decide)) (kne1 (by decide))) (hCk _ (kne1 (by decide)) (kne1 (by decide))) (hLk _ (kne1 (by decide)) (kne1 (by decide))) (fun j hj => hLk (14, j, 0) (kne2 (by omega)) (kne1 (by decide)))) (by omega) ((hCk _ (kne1 (by decide)) (kne1 (by decide))).trans hX.1.1.2) rfl (by simp [kCas]) i1 (by decide) (by decide) (by decide) (by decide) (by decide) (by decide) (fun i hi => ⟨14, i, 0, _, by decide, by decide, rfl, (hCk _ (kne2 (by omega)) (kne1 (by decide))).trans (hX.1.2.2.2 i (by rw [hn9]; exact hi)).1⟩)) ((hCk _ (kne1 (by decide)) (kne1 (by decide))).trans hl2b) rfl rfl (hLk _ (kne1 (by decide)) (kne1 (by decide))) rfl rfl (Nat.le_of_ble_eq_true rfl) ⟨by rw [hR]; exact Nat.le_of_ble_eq_true rfl, by rw [hR]; exact Nat.le_of_ble_eq_true rfl⟩ ⟨by rw [hR]; dsimp only; omega, by rw [hR]; dsimp only; omega⟩ dX5_add_48 (fun v48 C9 L9 h9 => ?_)
    obtain ⟨rfl, e1, e2, e3⟩ := h9
    refine k_abs2 (fun C' L' => isX E C' L' (sAddJ S (N 1 0 0) cr si) (nAddJ N) ∧ (∀ t : kT, t.1 ≠ 2 → t.1 ≠ 3 → t.1 ≠ 14 → t.1 ≠ 15 → C' t = C t) ∧ (∀ t : kT, t.1 ≠ 3 → t.1 ≠ 14 → t.1 ≠ 15 → L' t = L t)) ⟨isX.addJn hn9 (e3 _ (fun j hj => e2 _ (kne1 (by decide))) ((e2 _ (kne1 (by decide))).trans hq9)) (by unfold nAddJ; rw [w3_s, hn9]) ((e1 _ (kne1 (by decide)) (kne1 (by decide))).trans (i1.trans ?_)) ((e1 _ (kne1 (by decide)) (kne1 (by decide))).trans (i2.trans (by simp [kF, sAddJ]))) hX (fun f d' k z => ?_) (fun f d' k z => ?_) (fun f d' k j z => sAddJ_n z) (fun f d' k z => w3_n (by omega)), fun t h1 h2 h3 h4 => (e1 t (fun e => h1 (congrArg Prod.fst e)) (fun e => h2 (congrArg Prod.fst e))).trans (hCk t (fun e => h3 (congrArg Prod.fst e)) (fun e => h4 (congrArg Prod.fst e))), fun t h2 h3 h4 => (e2 t (fun e => h2 (congrArg Prod.fst e))).trans (hLk t (fun e => h3 (congrArg Prod.fst e)) (fun e => h4 (congrArg Prod.fst e)))⟩ (fun CJ LJ hJ => ?_)
    · rw [e2 (15, (N 1 0 0), 0) (kne1 (by decide)), kup_s]
      simp [sAddJ]
    · exact (e1 _ (fun e => z (Or.inl (congrArg Prod.fst e))) (fun e => z (Or.inr (Or.inl (congrArg Prod.fst e))))).trans (hCk _ (kneD2 (by omega)) (kneD2 (by omega)))
    · exact (e2 _ (fun e => z (Or.inl (congrArg Prod.fst e)))).trans (hLk _ (kneD2 (by omega)) (kneD2 (by omega)))
    obtain ⟨hXJ, hCJ, hLJ⟩ := hJ
    refine k_lo (lo' := [(0, .ref (LJ (1, 0, 0)))]) ⟨kLR (hLJ (1, 0, 0) (show (1 : Nat) ≠ 3 by decide) (show (1 : Nat) ≠ 14 by decide) (show (1 : Nat) ≠ 15 by decide)), trivial⟩ ?_
    obtain ⟨vl2c, hl2c⟩ := hXJ.1.2.1.hd
    refine k_pop X dX5_add_51 rfl ?_
    refine k_aload_n X dX5_add_52 rfl rfl ?_
    refine k_get0 X hXJ.1.1.1 (q := (RX5, TX5, 3)) rfl inlX5 0 (by decide) kb_13 (Or.inl rfl) rfl rfl dX5_add_53 ?_
    refine k_callV (rest := []) X kv_Jx4a65c_size_8abf5 kb_63 (c_Ls_size X.tr (n := N 1 0 0 + 1) (g := fun j => LJ (14, j, 0)) (by have h9 := hXJ.1.2.1; rw [show nAddJ N 1 0 0 = N 1 0 0 + 1 from w3_s] at h9; exact h9)) hl2c rfl rfl rfl rfl rfl (Nat.le_of_ble_eq_true rfl) ⟨by rw [hR]; exact Nat.le_of_ble_eq_true rfl, by rw [hR]; exact Nat.le_of_ble_eq_true rfl⟩ ⟨by rw [hR]; dsimp only; omega, by rw [hR]; dsimp only; omega⟩ dX5_add_56 (fun v56 C9 L9 h9 => ?_)
    obtain ⟨rfl, rfl, rfl⟩ := h9
    refine k_iconst (v := (nI 1)) X dX5_add_59 (by decide) ?_
    refine k_isubN (h := Nat.le_add_left 1 (N 1 0 0)) X dX5_add_60 ?_
    exact k_iret X hE dX5_add_61 (by first | omega | exact Nat.le_of_ble_eq_true rfl | (dsimp only; omega)) (by first | omega | exact Nat.le_of_ble_eq_true rfl | (dsimp only; omega)) ⟨⟨⟨hp, hq⟩, h40, by rw [Nat.add_sub_cancel], hXJ⟩, fun t ht => ⟨hCJ t (by omega) (by omega) (by omega) (by omega), hLJ t (by omega) (by omega) (by omega)⟩, fun t ht => hLJ t (by omega) (by omega) (by omega)⟩
  ·
    exact k_thrS X hT (Or.inr ⟨rfl, hp, hq, by have h40 : ¬ N 1 0 0 < 40 := fun z => c22 (nI_lt z (by decide)); omega⟩) (is := 37) (text := "the central store is full") (by simp [kStr]) dX5_add_25 dX5_add_28 dX5_add_29 dX5_add_31 dX5_add_34 (by rw [hR]; exact Nat.lt_of_lt_of_le (by decide : 5 < 6) (Nat.le_of_ble_eq_true rfl)) (by rw [hR]; exact Nat.le_of_ble_eq_true rfl) (by rw [hR]; dsimp only; omega) (by rw [hR]; dsimp only; omega) (by omega) (by omega)

set_option maxHeartbeats 4000000 in
set_option maxRecDepth 100000 in
theorem c_heldValue {l : Launch} (htr : l.stackTraces = false) {E : kE} {A : Nat → Prop} {C : kC} {L : kL} {S : kI4} {N : kN3} (hX : isX E C L S N) (hO : okX S N) (dv job f : Int32) : kMX l yX5_heldValue cX5_heldValue 5 (some .int) 8 130 3 18 E A C L [.ref (L (1, 0, 0)), .int dv, .int job, .int f] (fun v C' L' => (∃ d, d < 4 ∧ dv = nI d ∧ kin f (nI 0) (nI 1) ∧ ∃ ff fS kk, kHf S N d job (some (ff, d, kk)) ∧ kFh N d ff fS kk ∧ v = some (.int (if f = nI 0 then S fS d kk 0 else S fS d kk 1))) ∧ L = L' ∧ C = C') (fun X9 => (X9 = eIO ∧ ¬ kix dv 4) ∨ (X9 = eIA ∧ kix dv 4 ∧ ¬ (kin f (nI 0) (nI 1))) ∨ (X9 = eIS ∧ ∃ d, d < 4 ∧ dv = nI d ∧ (kin f (nI 0) (nI 1)) ∧ kHf S N d job none)) := by
  obtain ⟨vl2, hl2⟩ := hX.1.2.1.hd
  have hb1 := hO.1
  refine kMX.of htr (by decide) (Nat.le_of_ble_eq_true rfl) (fun Γ hl hR hN X hE hT => ?_)
  refine k_lo (lo' := [(0, .ref (L (1, 0, 0))), (1, .int dv), (2, .int job), (3, .int f)]) ⟨rfl, rfl, rfl, rfl, trivial⟩ ?_
  refine k_aload_n X dX5_heldValue_0 rfl rfl ?_
  refine k_iload_n X dX5_heldValue_1 rfl rfl ?_
  refine k_callVX (rest := []) X hT kv_X5_deviceAt kb_221 (c_deviceAt X.tr hX hO dv) (fun _ h => ⟨Or.inl h, rfl, rfl⟩) hX.1.1.1 rfl rfl rfl rfl rfl (Nat.le_of_ble_eq_true rfl) ⟨by rw [hR]; exact Nat.le_of_ble_eq_true rfl, by rw [hR]; exact Nat.le_of_ble_eq_true rfl⟩ ⟨by rw [hR]; exact Nat.le_of_ble_eq_true rfl, by rw [hR]; exact Nat.le_of_ble_eq_true rfl⟩ ⟨by omega, by omega⟩ dX5_heldValue_2 (fun v2 C9 L9 h9 => ?_)
  obtain ⟨⟨d, hd, rfl, rfl⟩, rfl, rfl⟩ := h9
  obtain ⟨vl8, hl8⟩ := (hX.2 d hd).2.2.2.1.hd
  obtain ⟨vl10, hl10⟩ := (hX.2 d hd).2.2.2.2.1.hd
  obtain ⟨vl12, hl12⟩ := (hX.2 d hd).2.2.2.2.2.1.hd
  have hb2 := (hO.2 d hd).1
  have hb3 := (hO.2 d hd).2.1
  have hb4 := (hO.2 d hd).2.2.1
  have hb5 := (hO.2 d hd).2.2.2.1
  have hb6 := (hO.2 d hd).2.2.2.2
  refine k_astore X dX5_heldValue_5 (by rw [hN]; decide) ?_
  refine k_iload_n X dX5_heldValue_7 rfl rfl ?_
  refine k_callSX (rest := []) X hT ks_X5_checkField kb_202 (c_checkField X.tr f) (fun _ h => ⟨Or.inr (Or.inl ⟨h.1, kix.of hd (by decide), h.2⟩), rfl, rfl⟩) rfl rfl (Nat.le_of_ble_eq_true rfl) ⟨by rw [hR]; exact Nat.le_of_ble_eq_true rfl, by rw [hR]; exact Nat.le_of_ble_eq_true rfl⟩ ⟨by rw [hR]; exact Nat.le_of_ble_eq_true rfl, by rw [hR]; exact Nat.le_of_ble_eq_true rfl⟩ ⟨by omega, by omega⟩ dX5_heldValue_8 (fun v8 C9 L9 h9 => ?_)
  obtain ⟨hp, rfl, rfl, rfl⟩ := h9
  refine k_aload X dX5_heldValue_11 rfl ?_
  refine k_iload_n X dX5_heldValue_13 rfl rfl ?_
  refine k_callSX (rest := []) X hT ks_X5_fieldsHeld kb_261 (c_fieldsHeld X.tr hX hO hd job) (fun _ h => ⟨Or.inr (Or.inr ⟨h.1, d, hd, rfl, hp, h.2⟩), rfl, rfl⟩) rfl rfl (Nat.le_of_ble_eq_true rfl) ⟨by rw [hR]; exact Nat.le_of_ble_eq_true rfl, by rw [hR]; exact Nat.le_of_ble_eq_true rfl⟩ ⟨by rw [hR]; exact Nat.le_of_ble_eq_true rfl, by rw [hR]; exact Nat.le_of_ble_eq_true rfl⟩ ⟨by omega, by omega⟩ dX5_heldValue_14 (fun v14 C9 L9 h9 => ?_)
  obtain ⟨⟨t, rfl, hf⟩, rfl, rfl⟩ := h9
  obtain ⟨ff, fS, kk, rfl, hfh⟩ := hf.fh
  have hc9 := hfh.at hX hd
  refine k_iload_n X dX5_heldValue_17 rfl rfl ?_
  refine k_callV (rest := []) X kv_X2_valueOf kb_402 (c_X2_valueOf X.tr f hc9) hc9 rfl rfl rfl rfl rfl (Nat.le_of_ble_eq_true rfl) ⟨by rw [hR]; exact Nat.le_of_ble_eq_true rfl, by rw [hR]; exact Nat.le_of_ble_eq_true rfl⟩ ⟨by rw [hR]; exact Nat.le_of_ble_eq_true rfl, by rw [hR]; exact Nat.le_of_ble_eq_true rfl⟩ dX5_heldValue_18 (fun v18 C9 L9 h9 => ?_)
  obtain ⟨rfl, rfl, rfl⟩ := h9
  exact k_iret X hE dX5_heldValue_21 (by first | omega | exact Nat.le_of_ble_eq_true rfl | (dsimp only; omega)) (by first | omega | exact Nat.le_of_ble_eq_true rfl | (dsimp only; omega)) ⟨⟨d, hd, rfl, hp, ff, fS, kk, hf, hfh, rfl⟩, rfl, rfl⟩

set_option maxHeartbeats 4000000 in
set_option maxRecDepth 100000 in
theorem c_change {l : Launch} (htr : l.stackTraces = false) {E : kE} {A : Nat → Prop} {C : kC} {L : kL} {S : kI4} {N : kN3} (hX : isX E C L S N) (hO : okX S N) (h512 : ∀ d, d < 4 → N 3 d 0 < 512) (dv job f x : Int32) : kMX l yX5_change cX5_change 7 (some .int) 9 195 6 830 E A C L [.ref (L (1, 0, 0)), .int dv, .int job, .int f, .int x] (fun v C' L' => (∃ d, d < 4 ∧ dv = nI d ∧ (kin f (nI 0) (nI 1) ∧ kin x (nI 0) (if f = nI 0 then nI 2 else nI 10000)) ∧ ∃ ff fS kk, kHf S N d job (some (ff, d, kk)) ∧ kFh N d ff fS kk ∧ v = some (.int (nI (N 3 d 0 + 1 - N 4 d 0))) ∧ isX E C' L' (sPut (sAct S d (N 3 d 0) job f x (if f = nI 0 then S fS d kk 2 else S fS d kk 3) (-1)) fS d kk f x) (w3 N 3 d 0 (N 3 d 0 + 1))) ∧ kFr C L C' L' ∧ ∀ t : kT, t.1 ≤ 1 → L' t = L t) (fun X9 => (X9 = eIO ∧ ¬ kix dv 4) ∨ (X9 = eIA ∧ kix dv 4 ∧ ¬ (kin f (nI 0) (nI 1) ∧ kin x (nI 0) (if f = nI 0 then nI 2 else nI 10000))) ∨ (X9 = eIS ∧ ∃ d, d < 4 ∧ dv = nI d ∧ (kin f (nI 0) (nI 1) ∧ kin x (nI 0) (if f = nI 0 then nI 2 else nI 10000)) ∧ kHf S N d job none)) := by
  obtain ⟨vl2, hl2⟩ := hX.1.2.1.hd
  have hb1 := hO.1
  refine kMX.of htr (by decide) (Nat.le_of_ble_eq_true rfl) (fun Γ hl hR hN X hE hT => ?_)
  refine k_lo (lo' := [(0, .ref (L (1, 0, 0))), (1, .int dv), (2, .int job), (3, .int f), (4, .int x)]) ⟨rfl, rfl, rfl, rfl, rfl, trivial⟩ ?_
  refine k_aload_n X dX5_change_0 rfl rfl ?_
  refine k_iload_n X dX5_change_1 rfl rfl ?_
  refine k_callVX (rest := []) X hT kv_X5_deviceAt kb_221 (c_deviceAt X.tr hX hO dv) (fun _ h => ⟨Or.inl h, rfl, rfl⟩) hX.1.1.1 rfl rfl rfl rfl rfl (Nat.le_of_ble_eq_true rfl) ⟨by rw [hR]; exact Nat.le_of_ble_eq_true rfl, by rw [hR]; exact Nat.le_of_ble_eq_true rfl⟩ ⟨by rw [hR]; exact Nat.le_of_ble_eq_true rfl, by rw [hR]; exact Nat.le_of_ble_eq_true rfl⟩ ⟨by omega, by omega⟩ dX5_change_2 (fun v2 C9 L9 h9 => ?_)
  obtain ⟨⟨d, hd, rfl, rfl⟩, rfl, rfl⟩ := h9
  obtain ⟨vl8, hl8⟩ := (hX.2 d hd).2.2.2.1.hd
  obtain ⟨vl10, hl10⟩ := (hX.2 d hd).2.2.2.2.1.hd
  obtain ⟨vl12, hl12⟩ := (hX.2 d hd).2.2.2.2.2.1.hd
  have hb2 := (hO.2 d hd).1
  have hb3 := (hO.2 d hd).2.1
  have hb4 := (hO.2 d hd).2.2.1
  have hb5 := (hO.2 d hd).2.2.2.1
  have hb6 := (hO.2 d hd).2.2.2.2
  refine k_astore X dX5_change_5 (by rw [hN]; decide) ?_
  refine k_iload_n X dX5_change_7 rfl rfl ?_
  refine k_iload X dX5_change_8 rfl ?_
  refine k_callSX (rest := []) X hT ks_X5_checkValue kb_199 (c_checkValue X.tr f x) (fun _ h => ⟨Or.inr (Or.inl ⟨h.1, kix.of hd (by decide), h.2⟩), rfl, rfl⟩) rfl rfl (Nat.le_of_ble_eq_true rfl) ⟨by rw [hR]; exact Nat.le_of_ble_eq_true rfl, by rw [hR]; exact Nat.le_of_ble_eq_true rfl⟩ ⟨by rw [hR]; exact Nat.le_of_ble_eq_true rfl, by rw [hR]; exact Nat.le_of_ble_eq_true rfl⟩ ⟨by omega, by omega⟩ dX5_change_10 (fun v10 C9 L9 h9 => ?_)
  obtain ⟨hp, rfl, rfl, rfl⟩ := h9
  refine k_aload X dX5_change_13 rfl ?_
  refine k_iload_n X dX5_change_15 rfl rfl ?_
  refine k_callSX (rest := []) X hT ks_X5_fieldsHeld kb_261 (c_fieldsHeld X.tr hX hO hd job) (fun _ h => ⟨Or.inr (Or.inr ⟨h.1, d, hd, rfl, hp, h.2⟩), rfl, rfl⟩) rfl rfl (Nat.le_of_ble_eq_true rfl) ⟨by rw [hR]; exact Nat.le_of_ble_eq_true rfl, by rw [hR]; exact Nat.le_of_ble_eq_true rfl⟩ ⟨by rw [hR]; exact Nat.le_of_ble_eq_true rfl, by rw [hR]; exact Nat.le_of_ble_eq_true rfl⟩ ⟨by omega, by omega⟩ dX5_change_16 (fun v16 C9 L9 h9 => ?_)
  obtain ⟨⟨t, rfl, hf⟩, rfl, rfl⟩ := h9
  obtain ⟨ff, fS, kk, rfl, hfh⟩ := hf.fh
  have hc9 := hfh.at hX hd
  refine k_astore X dX5_change_19 (by rw [hN]; decide) ?_
  refine k_aload X dX5_change_21 rfl ?_
  refine k_callV (rest := []) X kv_X1_takesActs kb_277 (c_takesActs X.tr hX hO hd) (hX.2 d hd).1 rfl rfl rfl rfl rfl (Nat.le_of_ble_eq_true rfl) ⟨by rw [hR]; exact Nat.le_of_ble_eq_true rfl, by rw [hR]; exact Nat.le_of_ble_eq_true rfl⟩ ⟨by rw [hR]; exact Nat.le_of_ble_eq_true rfl, by rw [hR]; exact Nat.le_of_ble_eq_true rfl⟩ dX5_change_23 (fun v23 C9 L9 h9 => ?_)
  obtain ⟨rfl, rfl, rfl⟩ := h9
  rw [if_pos (h512 d hd)]
  refine k_if_eq (tgt := 40) X dX5_change_26 (by decide) (fun c26 => absurd c26 (show ¬ nI 1 = 0 by decide)) (fun c26 => ?_)
  refine k_aload X dX5_change_29 rfl ?_
  refine k_iload_n X dX5_change_31 rfl rfl ?_
  refine k_aload X dX5_change_32 rfl ?_
  refine k_iload_n X dX5_change_34 rfl rfl ?_
  refine k_iload X dX5_change_35 rfl ?_
  refine k_callV (rest := []) X kv_X1_changeJob kb_281 (c_changeJob X.tr hX hO hd hfh (h512 d hd) job f x) (hX.2 d hd).1 rfl rfl rfl rfl rfl (Nat.le_of_ble_eq_true rfl) ⟨by rw [hR]; exact Nat.le_of_ble_eq_true rfl, by rw [hR]; exact Nat.le_of_ble_eq_true rfl⟩ ⟨by rw [hR]; exact Nat.le_of_ble_eq_true rfl, by rw [hR]; exact Nat.le_of_ble_eq_true rfl⟩ dX5_change_37 (fun v37 C9 L9 h9 => ?_)
  obtain ⟨rfl, hX2, hfr2, hL2⟩ := h9
  refine k_lo (lo' := [(5, .ref (L9 (5, d, 0)))]) ⟨kLR (hL2 (5, d, 0) (show (5 : Nat) ≤ 10 by decide)), trivial⟩ ?_
  refine k_aload X dX5_change_40 rfl ?_
  refine k_callV (rest := []) X kv_X1_waitingCount kb_300 (c_waitingCount X.tr hX2 (okX.addA hO (h512 d hd)) hd) (hX2.2 d hd).1 rfl rfl rfl rfl rfl (Nat.le_of_ble_eq_true rfl) ⟨by rw [hR]; exact Nat.le_of_ble_eq_true rfl, by rw [hR]; exact Nat.le_of_ble_eq_true rfl⟩ ⟨by rw [hR]; exact Nat.le_of_ble_eq_true rfl, by rw [hR]; exact Nat.le_of_ble_eq_true rfl⟩ dX5_change_42 (fun v42 C9 L9 h9 => ?_)
  obtain ⟨rfl, rfl, rfl⟩ := h9
  exact k_iret X hE dX5_change_45 (by first | omega | exact Nat.le_of_ble_eq_true rfl | (dsimp only; omega)) (by first | omega | exact Nat.le_of_ble_eq_true rfl | (dsimp only; omega)) ⟨⟨d, hd, rfl, hp, ff, fS, kk, hf, hfh, by rw [w3_s, w3_n (show ¬ (4 = 3 ∧ d = d ∧ 0 = 0) by omega)], hX2⟩, hfr2, fun t ht => hL2 t (by omega)⟩

set_option maxHeartbeats 4000000 in
set_option maxRecDepth 100000 in
theorem c_make {l : Launch} (htr : l.stackTraces = false) {E : kE} {A : Nat → Prop} {C : kC} {L : kL} {S : kI4} {N : kN3} (hX : isX E C L S N) (hO : okX S N) (h512 : ∀ d, d < 4 → N 2 d 0 < 512 ∧ N 3 d 0 < 512) (dv x : Int32) : kMX l yX5_make cX5_make 4 (some .int) 8 193 7 1620 E A C L [.ref (L (1, 0, 0)), .int dv, .int x] (fun v C' L' => (∃ d, d < 4 ∧ dv = nI d ∧ kin x (nI 0) (nI 9) ∧ v = some (.int (nI (1000 + N 2 d 0))) ∧ isX E C' L' (sMake S N d x) (nMake N d)) ∧ kFr C L C' L' ∧ ∀ t : kT, t.1 ≤ 1 → L' t = L t) (fun X9 => (X9 = eIO ∧ ¬ kix dv 4) ∨ (X9 = eIA ∧ kix dv 4 ∧ ¬ (kin x (nI 0) (nI 9)))) := by
  obtain ⟨vl2, hl2⟩ := hX.1.2.1.hd
  have hb1 := hO.1
  refine kMX.of htr (by decide) (Nat.le_of_ble_eq_true rfl) (fun Γ hl hR hN X hE hT => ?_)
  refine k_lo (lo' := [(0, .ref (L (1, 0, 0))), (1, .int dv), (2, .int x)]) ⟨rfl, rfl, rfl, trivial⟩ ?_
  refine k_aload_n X dX5_make_0 rfl rfl ?_
  refine k_iload_n X dX5_make_1 rfl rfl ?_
  refine k_callVX (rest := []) X hT kv_X5_deviceAt kb_221 (c_deviceAt X.tr hX hO dv) (fun _ h => ⟨Or.inl h, rfl, rfl⟩) hX.1.1.1 rfl rfl rfl rfl rfl (Nat.le_of_ble_eq_true rfl) ⟨by rw [hR]; exact Nat.le_of_ble_eq_true rfl, by rw [hR]; exact Nat.le_of_ble_eq_true rfl⟩ ⟨by rw [hR]; exact Nat.le_of_ble_eq_true rfl, by rw [hR]; exact Nat.le_of_ble_eq_true rfl⟩ ⟨by omega, by omega⟩ dX5_make_2 (fun v2 C9 L9 h9 => ?_)
  obtain ⟨⟨d, hd, rfl, rfl⟩, rfl, rfl⟩ := h9
  obtain ⟨vl8, hl8⟩ := (hX.2 d hd).2.2.2.1.hd
  obtain ⟨vl10, hl10⟩ := (hX.2 d hd).2.2.2.2.1.hd
  obtain ⟨vl12, hl12⟩ := (hX.2 d hd).2.2.2.2.2.1.hd
  have hb2 := (hO.2 d hd).1
  have hb3 := (hO.2 d hd).2.1
  have hb4 := (hO.2 d hd).2.2.1
  have hb5 := (hO.2 d hd).2.2.2.1
  have hb6 := (hO.2 d hd).2.2.2.2
  refine k_astore_n X dX5_make_5 rfl (by rw [hN]; decide) ?_
  refine k_iload_n X dX5_make_6 rfl rfl ?_
  refine k_iconst (v := (nI 0)) X dX5_make_7 (by decide) ?_
  refine k_bipush (v := (nI 9)) X dX5_make_8 (by decide) ?_
  refine k_callSX (rest := []) X hT ks_X5_checkRange kb_84 (c_checkRange X.tr x (nI 0) (nI 9)) (fun _ h => ⟨Or.inr ⟨h.1, kix.of hd (by decide), h.2⟩, rfl, rfl⟩) rfl rfl (Nat.le_of_ble_eq_true rfl) ⟨by rw [hR]; exact Nat.le_of_ble_eq_true rfl, by rw [hR]; exact Nat.le_of_ble_eq_true rfl⟩ ⟨by rw [hR]; exact Nat.le_of_ble_eq_true rfl, by rw [hR]; exact Nat.le_of_ble_eq_true rfl⟩ ⟨by omega, by omega⟩ dX5_make_10 (fun v10 C9 L9 h9 => ?_)
  obtain ⟨hp, rfl, rfl, rfl⟩ := h9
  refine k_aload_n X dX5_make_13 rfl rfl ?_
  refine k_callV (rest := []) X kv_X1_takesActs kb_277 (c_takesActs X.tr hX hO hd) (hX.2 d hd).1 rfl rfl rfl rfl rfl (Nat.le_of_ble_eq_true rfl) ⟨by rw [hR]; exact Nat.le_of_ble_eq_true rfl, by rw [hR]; exact Nat.le_of_ble_eq_true rfl⟩ ⟨by rw [hR]; exact Nat.le_of_ble_eq_true rfl, by rw [hR]; exact Nat.le_of_ble_eq_true rfl⟩ dX5_make_14 (fun v14 C9 L9 h9 => ?_)
  obtain ⟨rfl, rfl, rfl⟩ := h9
  rw [if_pos (h512 d hd).2]
  refine k_if_ne (tgt := 22) X dX5_make_17 (by decide) (fun c17 => ?_) (fun c17 => absurd c17 (show ¬ nI 1 = 0 by decide))
  refine k_aload_n X dX5_make_22 rfl rfl ?_
  refine k_iload_n X dX5_make_23 rfl rfl ?_
  refine k_callV (rest := []) X kv_X1_makeJob kb_311 (c_makeJob X.tr hX hO hd (h512 d hd).1 (h512 d hd).2 x) (hX.2 d hd).1 rfl rfl rfl rfl rfl (Nat.le_of_ble_eq_true rfl) ⟨by rw [hR]; exact Nat.le_of_ble_eq_true rfl, by rw [hR]; exact Nat.le_of_ble_eq_true rfl⟩ ⟨by rw [hR]; exact Nat.le_of_ble_eq_true rfl, by rw [hR]; exact Nat.le_of_ble_eq_true rfl⟩ dX5_make_24 (fun v24 C9 L9 h9 => ?_)
  obtain ⟨rfl, hX2, hfr2, hL2⟩ := h9
  exact k_iret X hE dX5_make_27 (by first | omega | exact Nat.le_of_ble_eq_true rfl | (dsimp only; omega)) (by first | omega | exact Nat.le_of_ble_eq_true rfl | (dsimp only; omega)) ⟨⟨d, hd, rfl, hp, rfl, hX2⟩, hfr2, fun t ht => hL2 t (by omega)⟩
end
section
/-- the i-th job, copied if there is room and it is of the crew and in the state -/
def xCp (q : kI4 × kN3) (d : Nat) (z : Int32) (i : Nat) : kI4 × kN3 := if q.1 6 d 0 0 < q.1 4 d 0 0 ∧ q.1 2 i 0 0 = nI d ∧ q.1 3 i 0 0 = z then (sHold q.1 d i (fun j => q.1 3 i 0 j), nHold q.2 d i) else q
def xCps (q : kI4 × kN3) (d : Nat) (z : Int32) : Nat → kI4 × kN3
  | 0 => q
  | i + 1 => xCp (xCps q d z i) d z i
theorem xCps_ok {q : kI4 × kN3} {d : Nat} {z : Int32} (h : okX q.1 q.2) : ∀ i, okX (xCps q d z i).1 (xCps q d z i).2 ∧ (xCps q d z i).2 1 0 0 = q.2 1 0 0
  | 0 => ⟨h, rfl⟩
  | i + 1 => by
    have ih := xCps_ok (d := d) (z := z) h i
    show okX (xCp (xCps q d z i) d z i).1 (xCp (xCps q d z i) d z i).2 ∧ (xCp (xCps q d z i) d z i).2 1 0 0 = q.2 1 0 0
    unfold xCp
    by_cases c : (xCps q d z i).1 6 d 0 0 < (xCps q d z i).1 4 d 0 0 ∧ (xCps q d z i).1 2 i 0 0 = nI d ∧ (xCps q d z i).1 3 i 0 0 = z
    · rw [if_pos c]
      exact ⟨okX.hold ih.1, (nHold_n (by omega)).trans ih.2⟩
    · rw [if_neg c]
      exact ih
/-- what a fetch makes -/
def xFetch (q : kI4 × kN3) (d : Nat) : kI4 × kN3 := xCps (xCps (xCps (sDrop q.1 d, q.2) d (nI 1) (q.2 1 0 0)) d (nI 0) (q.2 1 0 0)) d (nI 2) (q.2 1 0 0)

set_option maxHeartbeats 4000000 in
set_option maxRecDepth 100000 in
theorem c_copyJobs {l : Launch} (htr : l.stackTraces = false) {E : kE} {A : Nat → Prop} {C : kC} {L : kL} {S : kI4} {N : kN3} (hX : isX E C L S N) (hO : okX S N) {d : Nat} (hd : d < 4) (z : Int32) : kM l yX5_copyJobs cX5_copyJobs 6 none 3 64 40 160 E A C L [.ref (L (1, 0, 0)), .int (nI d), .ref (L (5, d, 0)), .int z] (fun v C' L' => v = none ∧ isX E C' L' (xCps (S, N) d z (N 1 0 0)).1 (xCps (S, N) d z (N 1 0 0)).2 ∧ kFr C L C' L' ∧ ∀ t : kT, t.1 ≠ 16 → L' t = L t) := by
  refine kM.of htr (by decide) (Nat.le_of_ble_eq_true rfl) (fun Γ hl hR hN hnm X hE => ?_)
  refine k_lo (lo' := [(0, .ref (L (1, 0, 0))), (1, .int (nI d)), (2, .ref (L (5, d, 0))), (3, .int z)]) ⟨rfl, rfl, rfl, rfl, trivial⟩ ?_
  have hb1 := hO.1
  have loop : ∀ (m i : Nat) (C8 : kC) (L8 : kL) (q8 : kI4 × kN3), i + m = N 1 0 0 → xCps (S, N) d z i = q8 → isX E C8 L8 q8.1 q8.2 → kFr C L C8 L8 → (∀ t : kT, t.1 ≠ 16 → L8 t = L t) → kW Γ E A C8 L8 i (4 * i) 3 [(0, .ref (L8 (1, 0, 0))), (1, .int (nI d)), (2, .ref (L8 (5, d, 0))), (3, .int z), (4, .int (nI i))] [] := by
    intro m
    induction m with
    | zero =>
      intro i C8 L8 q8 hi e8 hX8 hfr8 hL8
      have hO8 : okX q8.1 q8.2 := by rw [← e8]; exact (xCps_ok (q := (S, N)) hO i).1
      have hN8 : q8.2 1 0 0 = N 1 0 0 := by rw [← e8]; exact (xCps_ok (q := (S, N)) hO i).2
      have hl8 := hX8.1.2.1
      rw [hN8] at hl8
      obtain ⟨vl2, hl2⟩ := hl8.hd
      have e9 : q8 = xCps (S, N) d z (N 1 0 0) := by rw [← e8, show i = N 1 0 0 by omega]
      refine k_iload X dX5_copyJobs_3 rfl ?_
      refine k_aload_n X dX5_copyJobs_5 rfl rfl ?_
      refine k_get0 X hX8.1.1.1 (q := (RX5, TX5, 3)) rfl inlX5 0 (by decide) kb_13 (Or.inl rfl) rfl rfl dX5_copyJobs_6 ?_
      refine k_callV (rest := [.int (nI i)]) X kv_Jx4a65c_size_8abf5 kb_63 (c_Ls_size X.tr hl8) hl2 rfl rfl rfl rfl rfl (Nat.le_of_ble_eq_true rfl) ⟨by rw [hR]; exact Nat.le_of_ble_eq_true rfl, by rw [hR]; exact Nat.le_of_ble_eq_true rfl⟩ ⟨by rw [hR]; dsimp only; omega, by rw [hR]; dsimp only; omega⟩ dX5_copyJobs_9 (fun v9 C9 L9 h9 => ?_)
      obtain ⟨rfl, rfl, rfl⟩ := h9
      refine k_icmp_ge (tgt := 78) X dX5_copyJobs_12 (by decide) (fun c12 => ?_) (fun c12 => absurd (nI_le (Nat.le_of_eq (by omega)) (by omega)) c12)
      exact k_vret X hE dX5_copyJobs_78 (by first | omega | exact Nat.le_of_ble_eq_true rfl | (dsimp only; omega)) (by first | omega | exact Nat.le_of_ble_eq_true rfl | (dsimp only; omega)) ⟨rfl, e9 ▸ hX8, hfr8, hL8⟩
    | succ m ih =>
      intro i C8 L8 q8 hi0 e8 hX8 hfr8 hL8
      have hO8 : okX q8.1 q8.2 := by rw [← e8]; exact (xCps_ok (q := (S, N)) hO i).1
      have hN8 : q8.2 1 0 0 = N 1 0 0 := by rw [← e8]; exact (xCps_ok (q := (S, N)) hO i).2
      have hl8 := hX8.1.2.1
      rw [hN8] at hl8
      obtain ⟨vl2, hl2⟩ := hl8.hd
      have hi : i < N 1 0 0 := by omega
      have hj8 := hX8.1.2.2.2 i (by rw [hN8]; exact hi)
      refine k_iload X dX5_copyJobs_3 rfl ?_
      refine k_aload_n X dX5_copyJobs_5 rfl rfl ?_
      refine k_get0 X hX8.1.1.1 (q := (RX5, TX5, 3)) rfl inlX5 0 (by decide) kb_13 (Or.inl rfl) rfl rfl dX5_copyJobs_6 ?_
      refine k_callV (rest := [.int (nI i)]) X kv_Jx4a65c_size_8abf5 kb_63 (c_Ls_size X.tr hl8) hl2 rfl rfl rfl rfl rfl (Nat.le_of_ble_eq_true rfl) ⟨by rw [hR]; exact Nat.le_of_ble_eq_true rfl, by rw [hR]; exact Nat.le_of_ble_eq_true rfl⟩ ⟨by rw [hR]; dsimp only; omega, by rw [hR]; dsimp only; omega⟩ dX5_copyJobs_9 (fun v9 C9 L9 h9 => ?_)
      obtain ⟨rfl, rfl, rfl⟩ := h9
      refine k_icmp_ge (tgt := 78) X dX5_copyJobs_12 (by decide) (fun c12 => absurd c12 (nI_ge hi (by omega))) (fun c12 => ?_)
      refine k_aload_n X dX5_copyJobs_15 rfl rfl ?_
      refine k_get0 X hX8.1.1.1 (q := (RX5, TX5, 3)) rfl inlX5 0 (by decide) kb_13 (Or.inl rfl) rfl rfl dX5_copyJobs_16 ?_
      refine k_iload X dX5_copyJobs_19 rfl ?_
      refine k_callV (rest := []) X kv_Jx4a65c_get_915e3 kb_175 (c_Ls_get X.tr hl8 i hi (by omega)) hl2 rfl rfl rfl rfl rfl (Nat.le_of_ble_eq_true rfl) ⟨by rw [hR]; exact Nat.le_of_ble_eq_true rfl, by rw [hR]; exact Nat.le_of_ble_eq_true rfl⟩ ⟨by rw [hR]; dsimp only; omega, by rw [hR]; dsimp only; omega⟩ dX5_copyJobs_21 (fun v21 C9 L9 h9 => ?_)
      obtain ⟨rfl, rfl, rfl⟩ := h9
      refine k_cast X hj8.1 (r := (RX3, TX3, 3)) rfl rfl kb_81 dX5_copyJobs_24 ?_
      refine k_astore X dX5_copyJobs_27 (by rw [hN]; decide) ?_
      refine k_aload_n X dX5_copyJobs_29 rfl rfl ?_
      refine k_get0 X (hX8.2 d hd).1 (q := (RX1, TX1, 9)) rfl inlX1 3 (by decide) kb_240 (Or.inl rfl) rfl rfl dX5_copyJobs_30 ?_
      refine k_aload_n X dX5_copyJobs_33 rfl rfl ?_
      refine k_get0 X (hX8.2 d hd).1 (q := (RX1, TX1, 9)) rfl inlX1 0 (by decide) kb_220 (Or.inl rfl) rfl rfl dX5_copyJobs_34 ?_
      refine k_icmp_ge (tgt := 72) X dX5_copyJobs_37 (by decide) (fun c37 => ?_) (fun c37 => ?_)
      ·
        refine k_iinc (v := (nI (i + 1))) X dX5_copyJobs_72 rfl (by rw [show Int32.ofInt 1 = nI 1 from by decide, nI_add]) (by rw [hN]; decide) ?_
        refine k_goto (tgt := 3) X dX5_copyJobs_75 (by decide) ?_
        refine k_lo (lo' := [(0, .ref (L8 (1, 0, 0))), (1, .int (nI d)), (2, .ref (L8 (5, d, 0))), (3, .int z), (4, .int (nI (i + 1)))]) ⟨rfl, rfl, rfl, rfl, rfl, trivial⟩ ?_
        exact k_wide (by omega) (by omega) (ih (i + 1) C8 L8 (xCp q8 d z i) (by omega) (by rw [show xCps (S, N) d z (i + 1) = xCp (xCps (S, N) d z i) d z i from rfl, e8]) (by unfold xCp; rw [if_neg (by first | exact fun h => (Int32.not_lt.mpr c37) h.1 | exact fun h => c46 h.2.1 | exact fun h => c58 h.2.2)]; exact hX8) hfr8 hL8)
      ·
        refine k_aload X dX5_copyJobs_40 rfl ?_
        refine k_get0 X hj8.1 (q := (RX3, TX3, 3)) rfl inlX3 1 (by decide) kb_167 (Or.inl rfl) rfl rfl dX5_copyJobs_42 ?_
        refine k_iload_n X dX5_copyJobs_45 rfl rfl ?_
        refine k_icmp_ne (tgt := 72) X dX5_copyJobs_46 (by decide) (fun c46 => ?_) (fun c46 => ?_)
        ·
          refine k_iinc (v := (nI (i + 1))) X dX5_copyJobs_72 rfl (by rw [show Int32.ofInt 1 = nI 1 from by decide, nI_add]) (by rw [hN]; decide) ?_
          refine k_goto (tgt := 3) X dX5_copyJobs_75 (by decide) ?_
          refine k_lo (lo' := [(0, .ref (L8 (1, 0, 0))), (1, .int (nI d)), (2, .ref (L8 (5, d, 0))), (3, .int z), (4, .int (nI (i + 1)))]) ⟨rfl, rfl, rfl, rfl, rfl, trivial⟩ ?_
          exact k_wide (by omega) (by omega) (ih (i + 1) C8 L8 (xCp q8 d z i) (by omega) (by rw [show xCps (S, N) d z (i + 1) = xCp (xCps (S, N) d z i) d z i from rfl, e8]) (by unfold xCp; rw [if_neg (by first | exact fun h => (Int32.not_lt.mpr c37) h.1 | exact fun h => c46 h.2.1 | exact fun h => c58 h.2.2)]; exact hX8) hfr8 hL8)
        ·
          refine k_aload X dX5_copyJobs_49 rfl ?_
          refine k_get0 X hj8.1 (q := (RX3, TX3, 3)) rfl inlX3 2 (by decide) kb_198 (Or.inl rfl) rfl rfl dX5_copyJobs_51 ?_
          refine k_get0 X hj8.2 (q := (RX2, TX2, 4)) rfl inlX2 0 (by decide) kb_241 (Or.inl rfl) rfl rfl dX5_copyJobs_54 ?_
          refine k_iload_n X dX5_copyJobs_57 rfl rfl ?_
          refine k_icmp_ne (tgt := 72) X dX5_copyJobs_58 (by decide) (fun c58 => ?_) (fun c58 => ?_)
          ·
            refine k_iinc (v := (nI (i + 1))) X dX5_copyJobs_72 rfl (by rw [show Int32.ofInt 1 = nI 1 from by decide, nI_add]) (by rw [hN]; decide) ?_
            refine k_goto (tgt := 3) X dX5_copyJobs_75 (by decide) ?_
            refine k_lo (lo' := [(0, .ref (L8 (1, 0, 0))), (1, .int (nI d)), (2, .ref (L8 (5, d, 0))), (3, .int z), (4, .int (nI (i + 1)))]) ⟨rfl, rfl, rfl, rfl, rfl, trivial⟩ ?_
            exact k_wide (by omega) (by omega) (ih (i + 1) C8 L8 (xCp q8 d z i) (by omega) (by rw [show xCps (S, N) d z (i + 1) = xCp (xCps (S, N) d z i) d z i from rfl, e8]) (by unfold xCp; rw [if_neg (by first | exact fun h => (Int32.not_lt.mpr c37) h.1 | exact fun h => c46 h.2.1 | exact fun h => c58 h.2.2)]; exact hX8) hfr8 hL8)
          ·
            refine k_aload_n X dX5_copyJobs_61 rfl rfl ?_
            refine k_iload X dX5_copyJobs_62 rfl ?_
            refine k_aload X dX5_copyJobs_64 rfl ?_
            refine k_get0 X hj8.1 (q := (RX3, TX3, 3)) rfl inlX3 2 (by decide) kb_198 (Or.inl rfl) rfl rfl dX5_copyJobs_66 ?_
            refine k_callV (rest := []) X kv_X1_hold kb_242 (c_hold X.tr hX8 hO8 hd (n := i) (by omega) (ff := 15) (df := i) (kf := 0) (Or.inl rfl) (fun j => q8.1 3 i 0 j) hj8.2) (hX8.2 d hd).1 rfl rfl rfl rfl rfl (Nat.le_of_ble_eq_true rfl) ⟨by rw [hR]; exact Nat.le_of_ble_eq_true rfl, by rw [hR]; exact Nat.le_of_ble_eq_true rfl⟩ ⟨by rw [hR]; dsimp only; omega, by rw [hR]; dsimp only; omega⟩ dX5_copyJobs_69 (fun v69 C9 L9 h9 => ?_)
            obtain ⟨rfl, hX9, hfr9, hL9⟩ := h9
            refine k_lo (lo' := [(0, .ref (L9 (1, 0, 0))), (1, .int (nI d)), (2, .ref (L9 (5, d, 0))), (3, .int z), (4, .int (nI i))]) ⟨kLR (hL9 (1, 0, 0) (show (1 : Nat) ≠ 16 by decide)), rfl, kLR (hL9 (5, d, 0) (show (5 : Nat) ≠ 16 by decide)), rfl, rfl, trivial⟩ ?_
            refine k_iinc (v := (nI (i + 1))) X dX5_copyJobs_72 rfl (by rw [show Int32.ofInt 1 = nI 1 from by decide, nI_add]) (by rw [hN]; decide) ?_
            refine k_goto (tgt := 3) X dX5_copyJobs_75 (by decide) ?_
            refine k_lo (lo' := [(0, .ref (L9 (1, 0, 0))), (1, .int (nI d)), (2, .ref (L9 (5, d, 0))), (3, .int z), (4, .int (nI (i + 1)))]) ⟨rfl, rfl, rfl, rfl, rfl, trivial⟩ ?_
            exact k_wide (by omega) (by omega) (ih (i + 1) C9 L9 (xCp q8 d z i) (by omega) (by rw [show xCps (S, N) d z (i + 1) = xCp (xCps (S, N) d z i) d z i from rfl, e8]) (by unfold xCp; rw [if_pos ⟨Int32.not_le.mp c37, c46, c58⟩]; exact hX9) (hfr8.tr hfr9) (fun t ht => (hL9 t ht).trans (hL8 t ht)))
  refine k_iconst (v := (nI 0)) X dX5_copyJobs_0 (by decide) ?_
  refine k_istore X dX5_copyJobs_1 (by rw [hN]; decide) ?_
  exact k_lo (lo' := [(0, .ref (L (1, 0, 0))), (1, .int (nI d)), (2, .ref (L (5, d, 0))), (3, .int z), (4, .int (nI 0))]) ⟨rfl, rfl, rfl, rfl, rfl, trivial⟩ (loop (N 1 0 0) 0 C L (S, N) (by omega) rfl hX kFr.rf (fun _ _ => rfl))

set_option maxHeartbeats 4000000 in
set_option maxRecDepth 100000 in
theorem c_fetch {l : Launch} (htr : l.stackTraces = false) {E : kE} {A : Nat → Prop} {C : kC} {L : kL} {S : kI4} {N : kN3} (hX : isX E C L S N) (hO : okX S N) (dv : Int32) : kMX l yX5_fetch cX5_fetch 3 (some .int) 7 103 121 486 E A C L [.ref (L (1, 0, 0)), .int dv] (fun v C' L' => (∃ d, d < 4 ∧ dv = nI d ∧ v = some (.int ((xFetch (S, N) d).1 6 d 0 0 + (xFetch (S, N) d).1 7 d 0 0)) ∧ isX E C' L' (xFetch (S, N) d).1 (xFetch (S, N) d).2) ∧ kFr C L C' L' ∧ ∀ t : kT, t.1 ≠ 16 → L' t = L t) (fun X9 => (X9 = eIO ∧ ¬ kix dv 4)) := by
  obtain ⟨vl2, hl2⟩ := hX.1.2.1.hd
  have hb1 := hO.1
  refine kMX.of htr (by decide) (Nat.le_of_ble_eq_true rfl) (fun Γ hl hR hN X hE hT => ?_)
  refine k_lo (lo' := [(0, .ref (L (1, 0, 0))), (1, .int dv)]) ⟨rfl, rfl, trivial⟩ ?_
  refine k_aload_n X dX5_fetch_0 rfl rfl ?_
  refine k_iload_n X dX5_fetch_1 rfl rfl ?_
  refine k_callVX (rest := []) X hT kv_X5_deviceAt kb_221 (c_deviceAt X.tr hX hO dv) (fun _ h => ⟨h, rfl, rfl⟩) hX.1.1.1 rfl rfl rfl rfl rfl (Nat.le_of_ble_eq_true rfl) ⟨by rw [hR]; exact Nat.le_of_ble_eq_true rfl, by rw [hR]; exact Nat.le_of_ble_eq_true rfl⟩ ⟨by rw [hR]; exact Nat.le_of_ble_eq_true rfl, by rw [hR]; exact Nat.le_of_ble_eq_true rfl⟩ ⟨by omega, by omega⟩ dX5_fetch_2 (fun v2 C9 L9 h9 => ?_)
  obtain ⟨⟨d, hd, rfl, rfl⟩, rfl, rfl⟩ := h9
  obtain ⟨vl8, hl8⟩ := (hX.2 d hd).2.2.2.1.hd
  obtain ⟨vl10, hl10⟩ := (hX.2 d hd).2.2.2.2.1.hd
  obtain ⟨vl12, hl12⟩ := (hX.2 d hd).2.2.2.2.2.1.hd
  have hb2 := (hO.2 d hd).1
  have hb3 := (hO.2 d hd).2.1
  have hb4 := (hO.2 d hd).2.2.1
  have hb5 := (hO.2 d hd).2.2.2.1
  have hb6 := (hO.2 d hd).2.2.2.2
  refine k_astore_n X dX5_fetch_5 rfl (by rw [hN]; decide) ?_
  refine k_aload_n X dX5_fetch_6 rfl rfl ?_
  refine k_callV (rest := []) X kv_X1_dropCopies kb_232 (c_dropCopies X.tr hX hO hd) (hX.2 d hd).1 rfl rfl rfl rfl rfl (Nat.le_of_ble_eq_true rfl) ⟨by rw [hR]; exact Nat.le_of_ble_eq_true rfl, by rw [hR]; exact Nat.le_of_ble_eq_true rfl⟩ ⟨by rw [hR]; exact Nat.le_of_ble_eq_true rfl, by rw [hR]; exact Nat.le_of_ble_eq_true rfl⟩ dX5_fetch_7 (fun v7 C9 L9 h9 => ?_)
  obtain ⟨rfl, rfl, hfr1, hX1⟩ := h9
  refine k_abs2 (fun C' L' => isX E C' L' (sDrop S d) N ∧ kFr C L C' L' ∧ ∀ t : kT, t.1 ≠ 16 → L' t = L t) ⟨hX1, hfr1, fun _ _ => rfl⟩ (fun C1 L1 h1 => ?_)
  refine k_lo (lo' := [(0, .ref (L1 (1, 0, 0))), (1, .int (nI d)), (2, .ref (L1 (5, d, 0)))]) ⟨kLR (h1.2.2 (1, 0, 0) (show (1 : Nat) ≠ 16 by decide)), rfl, kLR (h1.2.2 (5, d, 0) (show (5 : Nat) ≠ 16 by decide)), trivial⟩ ?_
  refine k_aload_n X dX5_fetch_10 rfl rfl ?_
  refine k_iload_n X dX5_fetch_11 rfl rfl ?_
  refine k_aload_n X dX5_fetch_12 rfl rfl ?_
  refine k_iconst (v := (nI 1)) X dX5_fetch_13 (by decide) ?_
  refine k_callV (rest := []) X kv_X5_copyJobs kb_236 (c_copyJobs X.tr (S := (sDrop S d, N).1) (N := (sDrop S d, N).2) h1.1 hO hd (nI 1)) h1.1.1.1.1 rfl rfl rfl rfl rfl (Nat.le_of_ble_eq_true rfl) ⟨by rw [hR]; exact Nat.le_of_ble_eq_true rfl, by rw [hR]; exact Nat.le_of_ble_eq_true rfl⟩ ⟨by rw [hR]; exact Nat.le_of_ble_eq_true rfl, by rw [hR]; exact Nat.le_of_ble_eq_true rfl⟩ dX5_fetch_14 (fun v14 C9 L9 h9 => ?_)
  obtain ⟨rfl, g1, g2, g3⟩ := h9
  refine k_abs2 (fun C' L' => isX E C' L' (xCps (sDrop S d, N) d (nI 1) (N 1 0 0)).1 (xCps (sDrop S d, N) d (nI 1) (N 1 0 0)).2 ∧ kFr C L C' L' ∧ ∀ t : kT, t.1 ≠ 16 → L' t = L t) ⟨g1, h1.2.1.tr g2, fun t ht => (g3 t ht).trans (h1.2.2 t ht)⟩ (fun C2 L2 h2 => ?_)
  refine k_lo (lo' := [(0, .ref (L2 (1, 0, 0))), (1, .int (nI d)), (2, .ref (L2 (5, d, 0)))]) ⟨kLR ((h2.2.2 (1, 0, 0) (show (1 : Nat) ≠ 16 by decide)).trans (h1.2.2 (1, 0, 0) (show (1 : Nat) ≠ 16 by decide)).symm), rfl, kLR ((h2.2.2 (5, d, 0) (show (5 : Nat) ≠ 16 by decide)).trans (h1.2.2 (5, d, 0) (show (5 : Nat) ≠ 16 by decide)).symm), trivial⟩ ?_
  have hO2 := (xCps_ok (q := (sDrop S d, N)) (d := d) (z := nI 1) hO (N 1 0 0)).1
  have hN2 : (xCps (sDrop S d, N) d (nI 1) (N 1 0 0)).2 1 0 0 = N 1 0 0 := (xCps_ok (q := (sDrop S d, N)) (d := d) (z := nI 1) hO (N 1 0 0)).2
  refine k_aload_n X dX5_fetch_17 rfl rfl ?_
  refine k_iload_n X dX5_fetch_18 rfl rfl ?_
  refine k_aload_n X dX5_fetch_19 rfl rfl ?_
  refine k_iconst (v := (nI 0)) X dX5_fetch_20 (by decide) ?_
  refine k_callV (rest := []) X kv_X5_copyJobs kb_236 (c_copyJobs X.tr (S := (xCps (sDrop S d, N) d (nI 1) (N 1 0 0)).1) (N := (xCps (sDrop S d, N) d (nI 1) (N 1 0 0)).2) h2.1 hO2 hd (nI 0)) h2.1.1.1.1 rfl rfl rfl rfl rfl (Nat.le_of_ble_eq_true rfl) ⟨by rw [hR]; exact Nat.le_of_ble_eq_true rfl, by rw [hR]; exact Nat.le_of_ble_eq_true rfl⟩ ⟨by rw [hR]; exact Nat.le_of_ble_eq_true rfl, by rw [hR]; exact Nat.le_of_ble_eq_true rfl⟩ dX5_fetch_21 (fun v21 C9 L9 h9 => ?_)
  obtain ⟨rfl, g1, g2, g3⟩ := h9
  rw [hN2] at g1
  refine k_abs2 (fun C' L' => isX E C' L' (xCps (xCps (sDrop S d, N) d (nI 1) (N 1 0 0)) d (nI 0) (N 1 0 0)).1 (xCps (xCps (sDrop S d, N) d (nI 1) (N 1 0 0)) d (nI 0) (N 1 0 0)).2 ∧ kFr C L C' L' ∧ ∀ t : kT, t.1 ≠ 16 → L' t = L t) ⟨g1, h2.2.1.tr g2, fun t ht => (g3 t ht).trans (h2.2.2 t ht)⟩ (fun C3 L3 h3 => ?_)
  refine k_lo (lo' := [(0, .ref (L3 (1, 0, 0))), (1, .int (nI d)), (2, .ref (L3 (5, d, 0)))]) ⟨kLR ((h3.2.2 (1, 0, 0) (show (1 : Nat) ≠ 16 by decide)).trans (h2.2.2 (1, 0, 0) (show (1 : Nat) ≠ 16 by decide)).symm), rfl, kLR ((h3.2.2 (5, d, 0) (show (5 : Nat) ≠ 16 by decide)).trans (h2.2.2 (5, d, 0) (show (5 : Nat) ≠ 16 by decide)).symm), trivial⟩ ?_
  have hO3 := (xCps_ok (q := (xCps (sDrop S d, N) d (nI 1) (N 1 0 0))) (d := d) (z := nI 0) hO2 (N 1 0 0)).1
  have hN3 : (xCps (xCps (sDrop S d, N) d (nI 1) (N 1 0 0)) d (nI 0) (N 1 0 0)).2 1 0 0 = N 1 0 0 := (xCps_ok (q := (xCps (sDrop S d, N) d (nI 1) (N 1 0 0))) (d := d) (z := nI 0) hO2 (N 1 0 0)).2.trans hN2
  refine k_aload_n X dX5_fetch_24 rfl rfl ?_
  refine k_iload_n X dX5_fetch_25 rfl rfl ?_
  refine k_aload_n X dX5_fetch_26 rfl rfl ?_
  refine k_iconst (v := (nI 2)) X dX5_fetch_27 (by decide) ?_
  refine k_callV (rest := []) X kv_X5_copyJobs kb_236 (c_copyJobs X.tr (S := (xCps (xCps (sDrop S d, N) d (nI 1) (N 1 0 0)) d (nI 0) (N 1 0 0)).1) (N := (xCps (xCps (sDrop S d, N) d (nI 1) (N 1 0 0)) d (nI 0) (N 1 0 0)).2) h3.1 hO3 hd (nI 2)) h3.1.1.1.1 rfl rfl rfl rfl rfl (Nat.le_of_ble_eq_true rfl) ⟨by rw [hR]; exact Nat.le_of_ble_eq_true rfl, by rw [hR]; exact Nat.le_of_ble_eq_true rfl⟩ ⟨by rw [hR]; exact Nat.le_of_ble_eq_true rfl, by rw [hR]; exact Nat.le_of_ble_eq_true rfl⟩ dX5_fetch_28 (fun v28 C9 L9 h9 => ?_)
  obtain ⟨rfl, g1, g2, g3⟩ := h9
  rw [hN3] at g1
  refine k_abs2 (fun C' L' => isX E C' L' (xCps (xCps (xCps (sDrop S d, N) d (nI 1) (N 1 0 0)) d (nI 0) (N 1 0 0)) d (nI 2) (N 1 0 0)).1 (xCps (xCps (xCps (sDrop S d, N) d (nI 1) (N 1 0 0)) d (nI 0) (N 1 0 0)) d (nI 2) (N 1 0 0)).2 ∧ kFr C L C' L' ∧ ∀ t : kT, t.1 ≠ 16 → L' t = L t) ⟨g1, h3.2.1.tr g2, fun t ht => (g3 t ht).trans (h3.2.2 t ht)⟩ (fun C4 L4 h4 => ?_)
  refine k_lo (lo' := [(0, .ref (L4 (1, 0, 0))), (1, .int (nI d)), (2, .ref (L4 (5, d, 0)))]) ⟨kLR ((h4.2.2 (1, 0, 0) (show (1 : Nat) ≠ 16 by decide)).trans (h3.2.2 (1, 0, 0) (show (1 : Nat) ≠ 16 by decide)).symm), rfl, kLR ((h4.2.2 (5, d, 0) (show (5 : Nat) ≠ 16 by decide)).trans (h3.2.2 (5, d, 0) (show (5 : Nat) ≠ 16 by decide)).symm), trivial⟩ ?_
  have hO4 := (xCps_ok (q := (xCps (xCps (sDrop S d, N) d (nI 1) (N 1 0 0)) d (nI 0) (N 1 0 0))) (d := d) (z := nI 2) hO3 (N 1 0 0)).1
  have hN4 : (xCps (xCps (xCps (sDrop S d, N) d (nI 1) (N 1 0 0)) d (nI 0) (N 1 0 0)) d (nI 2) (N 1 0 0)).2 1 0 0 = N 1 0 0 := (xCps_ok (q := (xCps (xCps (sDrop S d, N) d (nI 1) (N 1 0 0)) d (nI 0) (N 1 0 0))) (d := d) (z := nI 2) hO3 (N 1 0 0)).2.trans hN3
  refine k_aload_n X dX5_fetch_31 rfl rfl ?_
  refine k_callV (rest := []) X kv_X1_heldCount kb_250 (c_heldCount X.tr (S := (xCps (xCps (xCps (sDrop S d, N) d (nI 1) (N 1 0 0)) d (nI 0) (N 1 0 0)) d (nI 2) (N 1 0 0)).1) (N := (xCps (xCps (xCps (sDrop S d, N) d (nI 1) (N 1 0 0)) d (nI 0) (N 1 0 0)) d (nI 2) (N 1 0 0)).2) h4.1 hO4 hd) (h4.1.2 d hd).1 rfl rfl rfl rfl rfl (Nat.le_of_ble_eq_true rfl) ⟨by rw [hR]; exact Nat.le_of_ble_eq_true rfl, by rw [hR]; exact Nat.le_of_ble_eq_true rfl⟩ ⟨by rw [hR]; exact Nat.le_of_ble_eq_true rfl, by rw [hR]; exact Nat.le_of_ble_eq_true rfl⟩ dX5_fetch_32 (fun v32 C9 L9 h9 => ?_)
  obtain ⟨rfl, rfl, rfl⟩ := h9
  exact k_iret X hE dX5_fetch_35 (by first | omega | exact Nat.le_of_ble_eq_true rfl | (dsimp only; omega)) (by first | omega | exact Nat.le_of_ble_eq_true rfl | (dsimp only; omega)) ⟨⟨d, hd, rfl, rfl, h4.1⟩, h4.2.1, h4.2.2⟩
end
section
def kStep (x y : Int32) : Prop := (x = nI 0 ∧ y = nI 1) ∨ (x = nI 1 ∧ y = nI 2)
/-- a making is sent -/
def xMaking (S : kI4) (N : kN3) (d k : Nat) (r : Int32) (S' : kI4) (N' : kN3) : Prop :=
  ((N 1 0 0 = 40 ∨ ∀ q, q < N 2 d 0 → S 11 d k 0 ≠ nI (1000 + q)) ∧ r = nI 3 ∧ S' = S ∧ N' = N) ∨
  ∃ q, q < N 2 d 0 ∧ S 11 d k 0 = nI (1000 + q) ∧ N 1 0 0 < 40 ∧ r = -1 ∧ S' = sAddJ (sNum S d q (N 1 0 0)) (N 1 0 0) (nI d) (S 11 d k 2) ∧ N' = nAddJ (nHold N d (N 1 0 0))
def xVer (S : kI4) (i : Nat) (f : Int32) : Int32 := if f = nI 0 then S 3 i 0 2 else S 3 i 0 3
def xChi (S : kI4) (d k i : Nat) (r : Int32) (S' : kI4) : Prop :=
  (S 2 i 0 0 ≠ nI d ∧ r = nI 0 ∧ S' = S) ∨
  (S 2 i 0 0 = nI d ∧ xVer S i (S 11 d k 1) ≠ S 11 d k 3 ∧ r = nI 1 ∧ S' = S) ∨
  (S 2 i 0 0 = nI d ∧ xVer S i (S 11 d k 1) = S 11 d k 3 ∧ S 11 d k 1 = 0 ∧ ¬ kStep (S 3 i 0 0) (S 11 d k 2) ∧ r = nI 2 ∧ S' = S) ∨
  (S 2 i 0 0 = nI d ∧ xVer S i (S 11 d k 1) = S 11 d k 3 ∧ (S 11 d k 1 ≠ 0 ∨ kStep (S 3 i 0 0) (S 11 d k 2)) ∧ r = -1 ∧ S' = sPut S 3 i 0 (S 11 d k 1) (S 11 d k 2))
/-- a change is sent -/
def xChg (S : kI4) (N : kN3) (d k : Nat) (r : Int32) (S' : kI4) (N' : kN3) : Prop :=
  N' = N ∧ ∃ x, kCn S N d (S 11 d k 0) x ∧ ((¬ kix x (N 1 0 0) ∧ r = nI 3 ∧ S' = S) ∨ ∃ i, i < N 1 0 0 ∧ x = nI i ∧ xChi S d k i r S')
def xDel (S : kI4) (N : kN3) (d k : Nat) (r : Int32) (S' : kI4) (N' : kN3) : Prop := (S 11 d k 1 = -1 ∧ xMaking S N d k r S' N') ∨ (S 11 d k 1 ≠ -1 ∧ xChg S N d k r S' N')
theorem nHold_o {N : kN3} {d n f i k : Nat} (z : f ≠ 11) : nHold N d n f i k = N f i k := nHold_n (by omega)
theorem xDel_ok {S : kI4} {N : kN3} {d k : Nat} {r : Int32} {S' : kI4} {N' : kN3} (h : xDel S N d k r S' N') (hO : okX S N) : okX S' N' ∧ ∀ f i j, f ≠ 1 → f ≠ 11 → N' f i j = N f i j := by
  rcases h with ⟨_, ⟨_, _, rfl, rfl⟩ | ⟨q, _, _, h4, _, rfl, rfl⟩⟩ | ⟨_, rfl, _⟩
  · exact ⟨hO, fun _ _ _ _ _ => rfl⟩
  · refine ⟨okX.addJ (S := S) (okX.hold hO) (by rw [nHold_o (by omega)]; exact h4), fun f i j h1 h2 => ?_⟩
    unfold nAddJ
    rw [w3_n (by omega), nHold_o h2]
  · exact ⟨hO, fun _ _ _ _ _ => rfl⟩

theorem sHold_n {S : kI4} {d n : Nat} {g : Nat → Int32} {f d' k j : Nat} (z : ¬ ((f = 5 ∨ f = 6 ∨ f = 8) ∧ d' = d)) : sHold S d n g f d' k j = S f d' k j := by
  unfold sHold
  by_cases h : S 5 d n 0 = 0
  · rw [if_pos h, w4_n (by omega), w4_n (by omega), sCopy_n (by omega)]
  · rw [if_neg h, sCopy_n (by omega)]

set_option maxHeartbeats 4000000 in
set_option maxRecDepth 100000 in
theorem c_deliverMaking {l : Launch} (htr : l.stackTraces = false) {E : kE} {A : Nat → Prop} {C : kC} {L : kL} {S : kI4} {N : kN3} (hX : isX E C L S N) (hO : okX S N) {d : Nat} (hd : d < 4) {k : Nat} (hk : k < N 3 d 0)  : kM l yX5_deliverMaking cX5_deliverMaking 5 (some .int) 7 171 4 100 E A C L [.ref (L (1, 0, 0)), .int (nI d), .ref (L (5, d, 0)), .ref (L (19, d, k))] (fun v C' L' => ∃ r S' N', v = some (.int r) ∧ xMaking S N d k r S' N' ∧ isX E C' L' S' N' ∧ kFr C L C' L' ∧ ∀ t : kT, (t.1 ≤ 1 ∨ t.1 = 5 ∨ t.1 = 19) → L' t = L t) := by
  obtain ⟨vl2, hl2⟩ := hX.1.2.1.hd
  have hb1 := hO.1
  have hb2 := (hO.2 d hd).1
  refine kM.of htr (by decide) (Nat.le_of_ble_eq_true rfl) (fun Γ hl hR hN hnm X hE => ?_)
  refine k_lo (lo' := [(0, .ref (L (1, 0, 0))), (1, .int (nI d)), (2, .ref (L (5, d, 0))), (3, .ref (L (19, d, k)))]) ⟨rfl, rfl, rfl, rfl, trivial⟩ ?_
  refine k_aload_n X dX5_deliverMaking_0 rfl rfl ?_
  refine k_aload_n X dX5_deliverMaking_1 rfl rfl ?_
  refine k_get0 X ((hX.2 d hd).2.2.2.2.2.2.2.2 k hk) (q := (RX0, TX0, 5)) rfl inlX0 0 (by decide) kb_352 (Or.inl rfl) rfl rfl dX5_deliverMaking_2 ?_
  refine k_callV (rest := []) X kv_X1_madeJob kb_354 (c_madeJob X.tr hX hO hd (S 11 d k 0)) (hX.2 d hd).1 rfl rfl rfl rfl rfl (Nat.le_of_ble_eq_true rfl) ⟨by rw [hR]; exact Nat.le_of_ble_eq_true rfl, by rw [hR]; exact Nat.le_of_ble_eq_true rfl⟩ ⟨by rw [hR]; dsimp only; omega, by rw [hR]; dsimp only; omega⟩ dX5_deliverMaking_5 (fun v5 C9 L9 h9 => ?_)
  obtain ⟨(⟨q, hq, hjob, rfl⟩ | ⟨hno, rfl⟩), rfl, rfl⟩ := h9
  ·
    refine k_astore X dX5_deliverMaking_8 (by rw [hN]; decide) ?_
    refine k_aload X dX5_deliverMaking_10 rfl ?_
    refine k_ifnull X dX5_deliverMaking_12 ?_
    refine k_aload_n X dX5_deliverMaking_15 rfl rfl ?_
    refine k_get0 X hX.1.1.1 (q := (RX5, TX5, 3)) rfl inlX5 0 (by decide) kb_13 (Or.inl rfl) rfl rfl dX5_deliverMaking_16 ?_
    refine k_callV (rest := []) X kv_Jx4a65c_size_8abf5 kb_63 (c_Ls_size X.tr hX.1.2.1) hl2 rfl rfl rfl rfl rfl (Nat.le_of_ble_eq_true rfl) ⟨by rw [hR]; exact Nat.le_of_ble_eq_true rfl, by rw [hR]; exact Nat.le_of_ble_eq_true rfl⟩ ⟨by rw [hR]; dsimp only; omega, by rw [hR]; dsimp only; omega⟩ dX5_deliverMaking_19 (fun v19 C9 L9 h9 => ?_)
    obtain ⟨rfl, rfl, rfl⟩ := h9
    refine k_bipush (v := (nI 40)) X dX5_deliverMaking_22 (by decide) ?_
    refine k_icmp_lt (tgt := 29) X dX5_deliverMaking_24 (by decide) (fun c24 => ?_) (fun c24 => ?_)
    ·
      refine k_aload_n X dX5_deliverMaking_29 rfl rfl ?_
      refine k_aload X dX5_deliverMaking_30 rfl ?_
      refine k_aload_n X dX5_deliverMaking_32 rfl rfl ?_
      refine k_get0 X hX.1.1.1 (q := (RX5, TX5, 3)) rfl inlX5 0 (by decide) kb_13 (Or.inl rfl) rfl rfl dX5_deliverMaking_33 ?_
      refine k_callV (rest := [.ref (L (17, d, q)), .ref (L (5, d, 0))]) X kv_Jx4a65c_size_8abf5 kb_63 (c_Ls_size X.tr hX.1.2.1) hl2 rfl rfl rfl rfl rfl (Nat.le_of_ble_eq_true rfl) ⟨by rw [hR]; exact Nat.le_of_ble_eq_true rfl, by rw [hR]; exact Nat.le_of_ble_eq_true rfl⟩ ⟨by rw [hR]; dsimp only; omega, by rw [hR]; dsimp only; omega⟩ dX5_deliverMaking_36 (fun v36 C9 L9 h9 => ?_)
      obtain ⟨rfl, rfl, rfl⟩ := h9
      have h40 : N 1 0 0 < 40 := (nI_ltI (by omega) (by decide)).mp c24
      refine k_callV (rest := []) X kv_X1_giveNumber kb_355 (c_giveNumber X.tr hX hO hd hq h40) (hX.2 d hd).1 rfl rfl rfl rfl rfl (Nat.le_of_ble_eq_true rfl) ⟨by rw [hR]; exact Nat.le_of_ble_eq_true rfl, by rw [hR]; exact Nat.le_of_ble_eq_true rfl⟩ ⟨by rw [hR]; dsimp only; omega, by rw [hR]; dsimp only; omega⟩ dX5_deliverMaking_39 (fun v39 C9 L9 h9 => ?_)
      obtain ⟨rfl, g1, g2, g3⟩ := h9
      refine k_abs2 (fun C' L' => isX E C' L' (sNum S d q (N 1 0 0)) (nHold N d (N 1 0 0)) ∧ kFr C L C' L' ∧ ∀ t : kT, t.1 ≠ 16 → L' t = L t) ⟨g1, g2, g3⟩ (fun C1 L1 h1 => ?_)
      refine k_lo (lo' := [(0, .ref (L1 (1, 0, 0))), (1, .int (nI d)), (2, .ref (L1 (5, d, 0))), (3, .ref (L1 (19, d, k)))]) ⟨kLR (h1.2.2 (1, 0, 0) (show (1 : Nat) ≠ 16 by decide)), rfl, kLR (h1.2.2 (5, d, 0) (show (5 : Nat) ≠ 16 by decide)), kLR (h1.2.2 (19, d, k) (show (19 : Nat) ≠ 16 by decide)), trivial⟩ ?_
      have n1 : nHold N d (N 1 0 0) 1 0 0 = N 1 0 0 := nHold_n (by omega)
      have n3 : nHold N d (N 1 0 0) 3 d 0 = N 3 d 0 := nHold_n (by omega)
      obtain ⟨vl2c, hl2c⟩ := h1.1.1.2.1.hd
      refine k_aload_n X dX5_deliverMaking_42 rfl rfl ?_
      refine k_get0 X h1.1.1.1.1 (q := (RX5, TX5, 3)) rfl inlX5 0 (by decide) kb_13 (Or.inl rfl) rfl rfl dX5_deliverMaking_43 ?_
      refine k_new0 X (14, (N 1 0 0), 0) (ci := 4) (q := (RX3, TX3, 3)) rfl inlX3 tyX3 tyX3_ok kb_81 kb_82 kb_83 (fs := [.int 0, .int 0, .null]) (fun j hj => by rcases (show j = 0 ∨ j = 1 ∨ j = 2 from by have : j < 3 := hj; omega) with rfl | rfl | rfl <;> rfl) dX5_deliverMaking_46 (by rw [hR]; dsimp only; omega) (by rw [hR]; dsimp only; omega) (fun q9 => ?_)
      refine k_dup X dX5_deliverMaking_49 rfl ?_
      refine k_iload_n X dX5_deliverMaking_50 rfl rfl ?_
      refine k_aload_n X dX5_deliverMaking_51 rfl rfl ?_
      refine k_get0 X ((kup_n (kne1 (by decide))).trans ((h1.1.2 d hd).2.2.2.2.2.2.2.2 k (by rw [n3]; exact hk))) (q := (RX0, TX0, 5)) rfl inlX0 2 (by decide) kb_353 (Or.inl rfl) ((kup_n (kne1 (by decide))).trans rfl) rfl dX5_deliverMaking_52 ?_
      refine k_rw (y := S 11 d k 2) (by unfold sNum; rw [sHold_n (by omega)]; exact (w4_n (by omega)).trans (w4_n (by omega))) ?_
      refine k_callI (rest := [.ref q9, .ref (L1 (2, 0, 0))]) X ki_X3_init kb_89 (c_X3_init X.tr (t := (14, (N 1 0 0), 0)) (tF := (15, (N 1 0 0), 0)) (nI d) (S 11 d k 2) (kne1 (by decide)) kup_s kup_s) rfl rfl (Nat.le_of_ble_eq_true rfl) ⟨by rw [hR]; exact Nat.le_of_ble_eq_true rfl, by rw [hR]; exact Nat.le_of_ble_eq_true rfl⟩ ⟨by rw [hR]; dsimp only; omega, by rw [hR]; dsimp only; omega⟩ dX5_deliverMaking_55 (fun v55 C9 L9 h9 => ?_)
      obtain ⟨q8, rfl, rfl, i1, i2, i3⟩ := h9
      have hCk : ∀ t : kT, t ≠ (14, (N 1 0 0), 0) → t ≠ (15, (N 1 0 0), 0) → C9 t = C1 t := fun t h1 h2 => (i3 t h1 h2).trans (kup_n h1)
      have hLk : ∀ t : kT, t ≠ (14, (N 1 0 0), 0) → t ≠ (15, (N 1 0 0), 0) → (kup (kup L1 (14, (N 1 0 0), 0) q9) (15, (N 1 0 0), 0) q8) t = L1 t := fun t h1 h2 => (kup_n h2).trans (kup_n h1)
      have hq9 : (kup (kup L1 (14, (N 1 0 0), 0) q9) (15, (N 1 0 0), 0) q8) (14, (N 1 0 0), 0) = q9 := (kup_n (kne1 (by decide))).trans kup_s
      obtain ⟨vl2b, hl2b⟩ := h1.1.1.2.1.hd
      have hn9 : (nHold N d (N 1 0 0)) 1 0 0 = (N 1 0 0) := n1
      have hl9 := h1.1.1.2.1
      rw [hn9] at hl9
      refine k_callV (rest := []) X kv_Jx4a65c_add_9ea2d kb_106 (c_Ls_addA X.tr (fh := 2) (fa := 3) (d := 0) (ft := 14) (dt := (N 1 0 0)) (kt := 0) (ci := 4) (r := (RX3, TX3, 3)) (hLk _ (kne1 (by decide)) (kne1 (by decide))) hq9 (hl9.keep (hCk _ (kne1 (by decide)) (kne1 (by decide))) (hCk _ (kne1 (by decide)) (kne1 (by decide))) (hLk _ (kne1 (by decide)) (kne1 (by decide))) (fun j hj => hLk (14, j, 0) (kne2 (by omega)) (kne1 (by decide)))) (by omega) ((hCk _ (kne1 (by decide)) (kne1 (by decide))).trans h1.1.1.1.2) rfl (by simp [kCas]) i1 (by decide) (by decide) (by decide) (by decide) (by decide) (by decide) (fun i hi => ⟨14, i, 0, _, by decide, by decide, rfl, (hCk _ (kne2 (by omega)) (kne1 (by decide))).trans (h1.1.1.2.2.2 i (by rw [hn9]; exact hi)).1⟩)) ((hCk _ (kne1 (by decide)) (kne1 (by decide))).trans hl2b) rfl rfl (hLk _ (kne1 (by decide)) (kne1 (by decide))) rfl rfl (Nat.le_of_ble_eq_true rfl) ⟨by rw [hR]; exact Nat.le_of_ble_eq_true rfl, by rw [hR]; exact Nat.le_of_ble_eq_true rfl⟩ ⟨by rw [hR]; dsimp only; omega, by rw [hR]; dsimp only; omega⟩ dX5_deliverMaking_58 (fun v58 C9 L9 h9 => ?_)
      obtain ⟨rfl, e1, e2, e3⟩ := h9
      refine k_abs2 (fun C' L' => isX E C' L' (sAddJ (sNum S d q (N 1 0 0)) (N 1 0 0) (nI d) (S 11 d k 2)) (nAddJ (nHold N d (N 1 0 0))) ∧ (∀ t : kT, t.1 ≠ 2 → t.1 ≠ 3 → t.1 ≠ 14 → t.1 ≠ 15 → C' t = C1 t) ∧ (∀ t : kT, t.1 ≠ 3 → t.1 ≠ 14 → t.1 ≠ 15 → L' t = L1 t)) ⟨isX.addJn hn9 (e3 _ (fun j hj => e2 _ (kne1 (by decide))) ((e2 _ (kne1 (by decide))).trans hq9)) (by unfold nAddJ; rw [w3_s, hn9]) ((e1 _ (kne1 (by decide)) (kne1 (by decide))).trans (i1.trans ?_)) ((e1 _ (kne1 (by decide)) (kne1 (by decide))).trans (i2.trans (by simp [kF, sAddJ]))) h1.1 (fun f d' k z => ?_) (fun f d' k z => ?_) (fun f d' k j z => sAddJ_n z) (fun f d' k z => w3_n (by omega)), fun t h1 h2 h3 h4 => (e1 t (fun e => h1 (congrArg Prod.fst e)) (fun e => h2 (congrArg Prod.fst e))).trans (hCk t (fun e => h3 (congrArg Prod.fst e)) (fun e => h4 (congrArg Prod.fst e))), fun t h2 h3 h4 => (e2 t (fun e => h2 (congrArg Prod.fst e))).trans (hLk t (fun e => h3 (congrArg Prod.fst e)) (fun e => h4 (congrArg Prod.fst e)))⟩ (fun CJ LJ hJ => ?_)
      · rw [e2 (15, (N 1 0 0), 0) (kne1 (by decide)), kup_s]
        simp [sAddJ]
      · exact (e1 _ (fun e => z (Or.inl (congrArg Prod.fst e))) (fun e => z (Or.inr (Or.inl (congrArg Prod.fst e))))).trans (hCk _ (kneD2 (by omega)) (kneD2 (by omega)))
      · exact (e2 _ (fun e => z (Or.inl (congrArg Prod.fst e)))).trans (hLk _ (kneD2 (by omega)) (kneD2 (by omega)))
      obtain ⟨hXJ, hCJ, hLJ⟩ := hJ
      refine k_pop X dX5_deliverMaking_61 rfl ?_
      refine k_iconst (v := (-1)) X dX5_deliverMaking_62 (by decide) ?_
      exact k_iret X hE dX5_deliverMaking_63 (by first | omega | exact Nat.le_of_ble_eq_true rfl | (dsimp only; omega)) (by first | omega | exact Nat.le_of_ble_eq_true rfl | (dsimp only; omega)) ⟨_, _, _, rfl, Or.inr ⟨q, hq, hjob, h40, rfl, rfl, rfl⟩, hXJ, fun t ht => ⟨(hCJ t (by omega) (by omega) (by omega) (by omega)).trans (h1.2.1 t ht).1, (hLJ t (by omega) (by omega) (by omega)).trans (h1.2.1 t ht).2⟩, fun t ht => (hLJ t (by omega) (by omega) (by omega)).trans (h1.2.2 t (by omega))⟩
    ·
      refine k_iconst (v := (nI 3)) X dX5_deliverMaking_27 (by decide) ?_
      exact k_iret X hE dX5_deliverMaking_28 (by first | omega | exact Nat.le_of_ble_eq_true rfl | (dsimp only; omega)) (by first | omega | exact Nat.le_of_ble_eq_true rfl | (dsimp only; omega)) ⟨_, _, _, rfl, Or.inl ⟨by first | exact Or.inr hno | (left; have h41 : ¬ N 1 0 0 < 40 := fun z => c24 (nI_lt z (by decide)); omega), rfl, rfl, rfl⟩, hX, kFr.rf, fun _ _ => rfl⟩
  ·
    refine k_astoreN X dX5_deliverMaking_8 (by rw [hN]; decide) ?_
    refine k_aloadN X dX5_deliverMaking_10 rfl ?_
    refine k_ifnullN (tgt := 27) X dX5_deliverMaking_12 (by decide) ?_
    refine k_iconst (v := (nI 3)) X dX5_deliverMaking_27 (by decide) ?_
    exact k_iret X hE dX5_deliverMaking_28 (by first | omega | exact Nat.le_of_ble_eq_true rfl | (dsimp only; omega)) (by first | omega | exact Nat.le_of_ble_eq_true rfl | (dsimp only; omega)) ⟨_, _, _, rfl, Or.inl ⟨by first | exact Or.inr hno | (left; have h41 : ¬ N 1 0 0 < 40 := fun z => c24 (nI_lt z (by decide)); omega), rfl, rfl, rfl⟩, hX, kFr.rf, fun _ _ => rfl⟩

set_option maxHeartbeats 4000000 in
set_option maxRecDepth 100000 in
theorem c_deliverChange {l : Launch} (htr : l.stackTraces = false) {E : kE} {A : Nat → Prop} {C : kC} {L : kL} {S : kI4} {N : kN3} (hX : isX E C L S N) (hO : okX S N) {d : Nat} (hd : d < 4) {k : Nat} (hk : k < N 3 d 0)  : kM l yX5_deliverChange cX5_deliverChange 6 (some .int) 5 107 0 0 E A C L [.ref (L (1, 0, 0)), .int (nI d), .ref (L (5, d, 0)), .ref (L (19, d, k))] (fun v C' L' => ∃ r S' N', v = some (.int r) ∧ xChg S N d k r S' N' ∧ isX E C' L' S' N' ∧ kFr C L C' L' ∧ ∀ t : kT, (t.1 ≤ 1 ∨ t.1 = 5 ∨ t.1 = 19) → L' t = L t) := by
  obtain ⟨vl2, hl2⟩ := hX.1.2.1.hd
  have hb1 := hO.1
  have hb2 := (hO.2 d hd).1
  refine kM.of htr (by decide) (Nat.le_of_ble_eq_true rfl) (fun Γ hl hR hN hnm X hE => ?_)
  refine k_lo (lo' := [(0, .ref (L (1, 0, 0))), (1, .int (nI d)), (2, .ref (L (5, d, 0))), (3, .ref (L (19, d, k)))]) ⟨rfl, rfl, rfl, rfl, trivial⟩ ?_
  refine k_aload_n X dX5_deliverChange_0 rfl rfl ?_
  refine k_aload_n X dX5_deliverChange_1 rfl rfl ?_
  refine k_get0 X ((hX.2 d hd).2.2.2.2.2.2.2.2 k hk) (q := (RX0, TX0, 5)) rfl inlX0 0 (by decide) kb_352 (Or.inl rfl) rfl rfl dX5_deliverChange_2 ?_
  refine k_callV (rest := []) X kv_X1_centralNumber kb_365 (c_centralNumber X.tr hX hO hd (S 11 d k 0)) (hX.2 d hd).1 rfl rfl rfl rfl rfl (Nat.le_of_ble_eq_true rfl) ⟨by rw [hR]; exact Nat.le_of_ble_eq_true rfl, by rw [hR]; exact Nat.le_of_ble_eq_true rfl⟩ ⟨by rw [hR]; exact Nat.le_of_ble_eq_true rfl, by rw [hR]; exact Nat.le_of_ble_eq_true rfl⟩ dX5_deliverChange_5 (fun v5 C9 L9 h9 => ?_)
  obtain ⟨⟨x, rfl, hcn⟩, rfl, rfl⟩ := h9
  refine k_istore X dX5_deliverChange_8 (by rw [hN]; decide) ?_
  refine k_iload X dX5_deliverChange_10 rfl ?_
  refine k_if_lt (tgt := 27) X dX5_deliverChange_12 (by decide) (fun c12 => ?_) (fun c12 => ?_)
  ·
    refine k_iconst (v := (nI 3)) X dX5_deliverChange_27 (by decide) ?_
    exact k_iret X hE dX5_deliverChange_28 (by first | omega | exact Nat.le_of_ble_eq_true rfl | (dsimp only; omega)) (by first | omega | exact Nat.le_of_ble_eq_true rfl | (dsimp only; omega)) ⟨_, _, _, rfl, ⟨rfl, _, hcn, Or.inl ⟨by first | exact fun z => z.1 c12 | exact fun z => c24 z.2, rfl, rfl⟩⟩, hX, kFr.rf, fun _ _ => rfl⟩
  ·
    refine k_iload X dX5_deliverChange_15 rfl ?_
    refine k_aload_n X dX5_deliverChange_17 rfl rfl ?_
    refine k_get0 X hX.1.1.1 (q := (RX5, TX5, 3)) rfl inlX5 0 (by decide) kb_13 (Or.inl rfl) rfl rfl dX5_deliverChange_18 ?_
    refine k_callV (rest := [.int x]) X kv_Jx4a65c_size_8abf5 kb_63 (c_Ls_size X.tr hX.1.2.1) hl2 rfl rfl rfl rfl rfl (Nat.le_of_ble_eq_true rfl) ⟨by rw [hR]; exact Nat.le_of_ble_eq_true rfl, by rw [hR]; exact Nat.le_of_ble_eq_true rfl⟩ ⟨by rw [hR]; exact Nat.le_of_ble_eq_true rfl, by rw [hR]; exact Nat.le_of_ble_eq_true rfl⟩ dX5_deliverChange_21 (fun v21 C9 L9 h9 => ?_)
    obtain ⟨rfl, rfl, rfl⟩ := h9
    refine k_icmp_lt (tgt := 29) X dX5_deliverChange_24 (by decide) (fun c24 => ?_) (fun c24 => ?_)
    ·
      refine k_aload_n X dX5_deliverChange_29 rfl rfl ?_
      refine k_get0 X hX.1.1.1 (q := (RX5, TX5, 3)) rfl inlX5 0 (by decide) kb_13 (Or.inl rfl) rfl rfl dX5_deliverChange_30 ?_
      refine k_iload X dX5_deliverChange_33 rfl ?_
      obtain ⟨i, hi, rfl⟩ := kix.ex (x := x) (n := N 1 0 0) ⟨c12, c24⟩ (by omega)
      refine k_callV (rest := []) X kv_Jx4a65c_get_915e3 kb_175 (c_Ls_get X.tr hX.1.2.1 i hi (by omega)) hl2 rfl rfl rfl rfl rfl (Nat.le_of_ble_eq_true rfl) ⟨by rw [hR]; exact Nat.le_of_ble_eq_true rfl, by rw [hR]; exact Nat.le_of_ble_eq_true rfl⟩ ⟨by rw [hR]; exact Nat.le_of_ble_eq_true rfl, by rw [hR]; exact Nat.le_of_ble_eq_true rfl⟩ dX5_deliverChange_35 (fun v35 C9 L9 h9 => ?_)
      obtain ⟨rfl, rfl, rfl⟩ := h9
      refine k_cast X (hX.1.2.2.2 i hi).1 (r := (RX3, TX3, 3)) rfl rfl kb_81 dX5_deliverChange_38 ?_
      refine k_astore X dX5_deliverChange_41 (by rw [hN]; decide) ?_
      refine k_aload X dX5_deliverChange_43 rfl ?_
      refine k_get0 X (hX.1.2.2.2 i hi).1 (q := (RX3, TX3, 3)) rfl inlX3 1 (by decide) kb_167 (Or.inl rfl) rfl rfl dX5_deliverChange_45 ?_
      refine k_iload_n X dX5_deliverChange_48 rfl rfl ?_
      refine k_icmp_eq (tgt := 54) X dX5_deliverChange_49 (by decide) (fun c49 => ?_) (fun c49 => ?_)
      ·
        refine k_aload X dX5_deliverChange_54 rfl ?_
        refine k_get0 X (hX.1.2.2.2 i hi).1 (q := (RX3, TX3, 3)) rfl inlX3 2 (by decide) kb_198 (Or.inl rfl) rfl rfl dX5_deliverChange_56 ?_
        refine k_aload_n X dX5_deliverChange_59 rfl rfl ?_
        refine k_get0 X ((hX.2 d hd).2.2.2.2.2.2.2.2 k hk) (q := (RX0, TX0, 5)) rfl inlX0 1 (by decide) kb_347 (Or.inl rfl) rfl rfl dX5_deliverChange_60 ?_
        refine k_callV (rest := []) X kv_X2_versionOf kb_209 (c_X2_versionOf X.tr (S 11 d k 1) (hX.1.2.2.2 i hi).2) (hX.1.2.2.2 i hi).2 rfl rfl rfl rfl rfl (Nat.le_of_ble_eq_true rfl) ⟨by rw [hR]; exact Nat.le_of_ble_eq_true rfl, by rw [hR]; exact Nat.le_of_ble_eq_true rfl⟩ ⟨by rw [hR]; exact Nat.le_of_ble_eq_true rfl, by rw [hR]; exact Nat.le_of_ble_eq_true rfl⟩ dX5_deliverChange_63 (fun v63 C9 L9 h9 => ?_)
        obtain ⟨rfl, rfl, rfl⟩ := h9
        refine k_aload_n X dX5_deliverChange_66 rfl rfl ?_
        refine k_get0 X ((hX.2 d hd).2.2.2.2.2.2.2.2 k hk) (q := (RX0, TX0, 5)) rfl inlX0 3 (by decide) kb_364 (Or.inl rfl) rfl rfl dX5_deliverChange_67 ?_
        refine k_icmp_eq (tgt := 75) X dX5_deliverChange_70 (by decide) (fun c70 => ?_) (fun c70 => ?_)
        ·
          refine k_aload_n X dX5_deliverChange_75 rfl rfl ?_
          refine k_get0 X ((hX.2 d hd).2.2.2.2.2.2.2.2 k hk) (q := (RX0, TX0, 5)) rfl inlX0 1 (by decide) kb_347 (Or.inl rfl) rfl rfl dX5_deliverChange_76 ?_
          refine k_if_ne (tgt := 102) X dX5_deliverChange_79 (by decide) (fun c79 => ?_) (fun c79 => ?_)
          ·
            refine k_aload X dX5_deliverChange_102 rfl ?_
            refine k_get0 X (hX.1.2.2.2 i hi).1 (q := (RX3, TX3, 3)) rfl inlX3 2 (by decide) kb_198 (Or.inl rfl) rfl rfl dX5_deliverChange_104 ?_
            refine k_aload_n X dX5_deliverChange_107 rfl rfl ?_
            refine k_get0 X ((hX.2 d hd).2.2.2.2.2.2.2.2 k hk) (q := (RX0, TX0, 5)) rfl inlX0 1 (by decide) kb_347 (Or.inl rfl) rfl rfl dX5_deliverChange_108 ?_
            refine k_aload_n X dX5_deliverChange_111 rfl rfl ?_
            refine k_get0 X ((hX.2 d hd).2.2.2.2.2.2.2.2 k hk) (q := (RX0, TX0, 5)) rfl inlX0 2 (by decide) kb_353 (Or.inl rfl) rfl rfl dX5_deliverChange_112 ?_
            refine k_callV (rest := []) X kv_X2_put kb_205 (c_X2_putA X.tr (S 11 d k 1) (S 11 d k 2) (t := (15, i, 0)) (S := S) (fS := 3) (a := i) (b := 0) rfl (hX.1.2.2.2 i hi).2) (hX.1.2.2.2 i hi).2 rfl rfl rfl rfl rfl (Nat.le_of_ble_eq_true rfl) ⟨by rw [hR]; exact Nat.le_of_ble_eq_true rfl, by rw [hR]; exact Nat.le_of_ble_eq_true rfl⟩ ⟨by rw [hR]; exact Nat.le_of_ble_eq_true rfl, by rw [hR]; exact Nat.le_of_ble_eq_true rfl⟩ dX5_deliverChange_115 (fun v115 C9 L9 h9 => ?_)
            obtain ⟨rfl, rfl, rfl⟩ := h9
            refine k_iconst (v := (-1)) X dX5_deliverChange_118 (by decide) ?_
            exact k_iret X hE dX5_deliverChange_119 (by first | omega | exact Nat.le_of_ble_eq_true rfl | (dsimp only; omega)) (by first | omega | exact Nat.le_of_ble_eq_true rfl | (dsimp only; omega)) ⟨_, _, _, rfl, ⟨rfl, _, hcn, Or.inr ⟨i, hi, rfl, Or.inr (Or.inr (Or.inr ⟨c49, c70, by first | exact Or.inl c79 | exact Or.inr (Classical.byContradiction fun z => c97 ((if_neg z).trans (by decide))), rfl, rfl⟩))⟩⟩, isX.f15 kup_s hX (fun f d' k z => kup_n (kneD2 z)) (fun _ _ _ _ => rfl) (fun f d' k j z => sPut_n (by omega)) (fun _ _ _ _ => rfl), kFr.rf.up (by decide), fun _ _ => rfl⟩
          ·
            refine k_aload X dX5_deliverChange_82 rfl ?_
            refine k_get0 X (hX.1.2.2.2 i hi).1 (q := (RX3, TX3, 3)) rfl inlX3 2 (by decide) kb_198 (Or.inl rfl) rfl rfl dX5_deliverChange_84 ?_
            refine k_get0 X (hX.1.2.2.2 i hi).2 (q := (RX2, TX2, 4)) rfl inlX2 0 (by decide) kb_241 (Or.inl rfl) rfl rfl dX5_deliverChange_87 ?_
            refine k_aload_n X dX5_deliverChange_90 rfl rfl ?_
            refine k_get0 X ((hX.2 d hd).2.2.2.2.2.2.2.2 k hk) (q := (RX0, TX0, 5)) rfl inlX0 2 (by decide) kb_353 (Or.inl rfl) rfl rfl dX5_deliverChange_91 ?_
            refine k_callS (rest := []) X ks_X5_isStep kb_369 (c_isStep X.tr (S 3 i 0 0) (S 11 d k 2)) rfl rfl (Nat.le_of_ble_eq_true rfl) ⟨by rw [hR]; exact Nat.le_of_ble_eq_true rfl, by rw [hR]; exact Nat.le_of_ble_eq_true rfl⟩ ⟨by rw [hR]; exact Nat.le_of_ble_eq_true rfl, by rw [hR]; exact Nat.le_of_ble_eq_true rfl⟩ dX5_deliverChange_94 (fun v94 C9 L9 h9 => ?_)
            obtain ⟨rfl, rfl, rfl⟩ := h9
            refine k_if_ne (tgt := 102) X dX5_deliverChange_97 (by decide) (fun c97 => ?_) (fun c97 => ?_)
            ·
              refine k_aload X dX5_deliverChange_102 rfl ?_
              refine k_get0 X (hX.1.2.2.2 i hi).1 (q := (RX3, TX3, 3)) rfl inlX3 2 (by decide) kb_198 (Or.inl rfl) rfl rfl dX5_deliverChange_104 ?_
              refine k_aload_n X dX5_deliverChange_107 rfl rfl ?_
              refine k_get0 X ((hX.2 d hd).2.2.2.2.2.2.2.2 k hk) (q := (RX0, TX0, 5)) rfl inlX0 1 (by decide) kb_347 (Or.inl rfl) rfl rfl dX5_deliverChange_108 ?_
              refine k_aload_n X dX5_deliverChange_111 rfl rfl ?_
              refine k_get0 X ((hX.2 d hd).2.2.2.2.2.2.2.2 k hk) (q := (RX0, TX0, 5)) rfl inlX0 2 (by decide) kb_353 (Or.inl rfl) rfl rfl dX5_deliverChange_112 ?_
              refine k_callV (rest := []) X kv_X2_put kb_205 (c_X2_putA X.tr (S 11 d k 1) (S 11 d k 2) (t := (15, i, 0)) (S := S) (fS := 3) (a := i) (b := 0) rfl (hX.1.2.2.2 i hi).2) (hX.1.2.2.2 i hi).2 rfl rfl rfl rfl rfl (Nat.le_of_ble_eq_true rfl) ⟨by rw [hR]; exact Nat.le_of_ble_eq_true rfl, by rw [hR]; exact Nat.le_of_ble_eq_true rfl⟩ ⟨by rw [hR]; exact Nat.le_of_ble_eq_true rfl, by rw [hR]; exact Nat.le_of_ble_eq_true rfl⟩ dX5_deliverChange_115 (fun v115 C9 L9 h9 => ?_)
              obtain ⟨rfl, rfl, rfl⟩ := h9
              refine k_iconst (v := (-1)) X dX5_deliverChange_118 (by decide) ?_
              exact k_iret X hE dX5_deliverChange_119 (by first | omega | exact Nat.le_of_ble_eq_true rfl | (dsimp only; omega)) (by first | omega | exact Nat.le_of_ble_eq_true rfl | (dsimp only; omega)) ⟨_, _, _, rfl, ⟨rfl, _, hcn, Or.inr ⟨i, hi, rfl, Or.inr (Or.inr (Or.inr ⟨c49, c70, by first | exact Or.inl c79 | exact Or.inr (Classical.byContradiction fun z => c97 ((if_neg z).trans (by decide))), rfl, rfl⟩))⟩⟩, isX.f15 kup_s hX (fun f d' k z => kup_n (kneD2 z)) (fun _ _ _ _ => rfl) (fun f d' k j z => sPut_n (by omega)) (fun _ _ _ _ => rfl), kFr.rf.up (by decide), fun _ _ => rfl⟩
            ·
              refine k_iconst (v := (nI 2)) X dX5_deliverChange_100 (by decide) ?_
              exact k_iret X hE dX5_deliverChange_101 (by first | omega | exact Nat.le_of_ble_eq_true rfl | (dsimp only; omega)) (by first | omega | exact Nat.le_of_ble_eq_true rfl | (dsimp only; omega)) ⟨_, _, _, rfl, ⟨rfl, _, hcn, Or.inr ⟨i, hi, rfl, Or.inr (Or.inr (Or.inl ⟨c49, c70, c79, fun z => absurd ((if_pos z).symm.trans c97) (by decide), rfl, rfl⟩))⟩⟩, hX, kFr.rf, fun _ _ => rfl⟩
        ·
          refine k_iconst (v := (nI 1)) X dX5_deliverChange_73 (by decide) ?_
          exact k_iret X hE dX5_deliverChange_74 (by first | omega | exact Nat.le_of_ble_eq_true rfl | (dsimp only; omega)) (by first | omega | exact Nat.le_of_ble_eq_true rfl | (dsimp only; omega)) ⟨_, _, _, rfl, ⟨rfl, _, hcn, Or.inr ⟨i, hi, rfl, Or.inr (Or.inl ⟨c49, c70, rfl, rfl⟩)⟩⟩, hX, kFr.rf, fun _ _ => rfl⟩
      ·
        refine k_iconst (v := (nI 0)) X dX5_deliverChange_52 (by decide) ?_
        exact k_iret X hE dX5_deliverChange_53 (by first | omega | exact Nat.le_of_ble_eq_true rfl | (dsimp only; omega)) (by first | omega | exact Nat.le_of_ble_eq_true rfl | (dsimp only; omega)) ⟨_, _, _, rfl, ⟨rfl, _, hcn, Or.inr ⟨i, hi, rfl, Or.inl ⟨c49, rfl, rfl⟩⟩⟩, hX, kFr.rf, fun _ _ => rfl⟩
    ·
      refine k_iconst (v := (nI 3)) X dX5_deliverChange_27 (by decide) ?_
      exact k_iret X hE dX5_deliverChange_28 (by first | omega | exact Nat.le_of_ble_eq_true rfl | (dsimp only; omega)) (by first | omega | exact Nat.le_of_ble_eq_true rfl | (dsimp only; omega)) ⟨_, _, _, rfl, ⟨rfl, _, hcn, Or.inl ⟨by first | exact fun z => z.1 c12 | exact fun z => c24 z.2, rfl, rfl⟩⟩, hX, kFr.rf, fun _ _ => rfl⟩

set_option maxHeartbeats 4000000 in
set_option maxRecDepth 100000 in
theorem c_deliver {l : Launch} (htr : l.stackTraces = false) {E : kE} {A : Nat → Prop} {C : kC} {L : kL} {S : kI4} {N : kN3} (hX : isX E C L S N) (hO : okX S N) {d : Nat} (hd : d < 4) {k : Nat} (hk : k < N 3 d 0)  : kM l yX5_deliver cX5_deliver 4 (some .int) 8 195 4 100 E A C L [.ref (L (1, 0, 0)), .int (nI d), .ref (L (5, d, 0)), .ref (L (19, d, k))] (fun v C' L' => ∃ r S' N', v = some (.int r) ∧ xDel S N d k r S' N' ∧ isX E C' L' S' N' ∧ kFr C L C' L' ∧ ∀ t : kT, (t.1 ≤ 1 ∨ t.1 = 5 ∨ t.1 = 19) → L' t = L t) := by
  obtain ⟨vl2, hl2⟩ := hX.1.2.1.hd
  have hb1 := hO.1
  have hb2 := (hO.2 d hd).1
  refine kM.of htr (by decide) (Nat.le_of_ble_eq_true rfl) (fun Γ hl hR hN hnm X hE => ?_)
  refine k_lo (lo' := [(0, .ref (L (1, 0, 0))), (1, .int (nI d)), (2, .ref (L (5, d, 0))), (3, .ref (L (19, d, k)))]) ⟨rfl, rfl, rfl, rfl, trivial⟩ ?_
  refine k_aload_n X dX5_deliver_0 rfl rfl ?_
  refine k_get0 X ((hX.2 d hd).2.2.2.2.2.2.2.2 k hk) (q := (RX0, TX0, 5)) rfl inlX0 1 (by decide) kb_347 (Or.inl rfl) rfl rfl dX5_deliver_1 ?_
  refine k_iconst (v := (-1)) X dX5_deliver_4 (by decide) ?_
  refine k_icmp_ne (tgt := 18) X dX5_deliver_5 (by decide) (fun c5 => ?_) (fun c5 => ?_)
  ·
    refine k_aload_n X dX5_deliver_18 rfl rfl ?_
    refine k_iload_n X dX5_deliver_19 rfl rfl ?_
    refine k_aload_n X dX5_deliver_20 rfl rfl ?_
    refine k_aload_n X dX5_deliver_21 rfl rfl ?_
    refine k_callV (rest := []) X kv_X5_deliverChange kb_360 (c_deliverChange X.tr hX hO hd hk) hX.1.1.1 rfl rfl rfl rfl rfl (Nat.le_of_ble_eq_true rfl) ⟨by rw [hR]; exact Nat.le_of_ble_eq_true rfl, by rw [hR]; exact Nat.le_of_ble_eq_true rfl⟩ ⟨by rw [hR]; dsimp only; omega, by rw [hR]; dsimp only; omega⟩ dX5_deliver_22 (fun v22 C9 L9 h9 => ?_)
    obtain ⟨r, S1, N1, rfl, hm, hX1, hfr1, hL1⟩ := h9
    exact k_iret X hE dX5_deliver_25 (by first | omega | exact Nat.le_of_ble_eq_true rfl | (dsimp only; omega)) (by first | omega | exact Nat.le_of_ble_eq_true rfl | (dsimp only; omega)) ⟨_, _, _, rfl, by first | exact Or.inl ⟨c5, hm⟩ | exact Or.inr ⟨c5, hm⟩, hX1, hfr1, hL1⟩
  ·
    refine k_aload_n X dX5_deliver_8 rfl rfl ?_
    refine k_iload_n X dX5_deliver_9 rfl rfl ?_
    refine k_aload_n X dX5_deliver_10 rfl rfl ?_
    refine k_aload_n X dX5_deliver_11 rfl rfl ?_
    refine k_callV (rest := []) X kv_X5_deliverMaking kb_348 (c_deliverMaking X.tr hX hO hd hk) hX.1.1.1 rfl rfl rfl rfl rfl (Nat.le_of_ble_eq_true rfl) ⟨by rw [hR]; exact Nat.le_of_ble_eq_true rfl, by rw [hR]; exact Nat.le_of_ble_eq_true rfl⟩ ⟨by rw [hR]; dsimp only; omega, by rw [hR]; dsimp only; omega⟩ dX5_deliver_12 (fun v12 C9 L9 h9 => ?_)
    obtain ⟨r, S1, N1, rfl, hm, hX1, hfr1, hL1⟩ := h9
    refine k_goto (tgt := 25) X dX5_deliver_15 (by decide) ?_
    exact k_iret X hE dX5_deliver_25 (by first | omega | exact Nat.le_of_ble_eq_true rfl | (dsimp only; omega)) (by first | omega | exact Nat.le_of_ble_eq_true rfl | (dsimp only; omega)) ⟨_, _, _, rfl, by first | exact Or.inl ⟨c5, hm⟩ | exact Or.inr ⟨c5, hm⟩, hX1, hfr1, hL1⟩

theorem kin.ex {x : Int32} {a b : Nat} (h : kin x (nI a) (nI b)) (ha : a < 2 ^ 31) (hb : b < 2 ^ 31) : ∃ n : Nat, a ≤ n ∧ n ≤ b ∧ x = nI n := by
  have h0 : ¬ x < 0 := fun z => h.1 (Int32.lt_of_lt_of_le z (nI_pos' ha))
  obtain ⟨j, hj, rfl⟩ := nI_of h0
  exact ⟨j, Nat.le_of_not_lt fun z => h.1 (nI_lt z ha), (nI_leI hj hb).mp h.2, rfl⟩
/-- the next act of d is sent; b: 1 if it is done -/
def xStep (S : kI4) (N : kN3) (d b : Nat) (S' : kI4) (N' : kN3) : Prop := ∃ r S1 N1, xDel S (w3 N 4 d 0 (N 4 d 0 + 1)) d (N 4 d 0) r S1 N1 ∧ ((r = -1 ∧ b = 1 ∧ S' = S1 ∧ N' = N1) ∨ (r ≠ -1 ∧ b = 0 ∧ S' = w4 S1 11 d (N 4 d 0) 4 r ∧ N' = nRef N1 d (N 4 d 0)))
def xSnd (S : kI4) (N : kN3) (d : Nat) : Nat → Nat → kI4 → kN3 → Prop
  | 0, c, S', N' => c = 0 ∧ S' = S ∧ N' = N
  | m + 1, c, S', N' => ∃ c1 S1 N1 b, xSnd S N d m c1 S1 N1 ∧ xStep S1 N1 d b S' N' ∧ c = c1 + b
theorem okX.take {S S' : kI4} {N : kN3} {d : Nat} (h : okX S N) (hn : N 4 d 0 < N 3 d 0) : okX S' (w3 N 4 d 0 (N 4 d 0 + 1)) := by
  refine ⟨by rw [w3_n (by omega)]; exact h.1, fun d' hd' => ?_⟩
  have h2 := h.2 d' hd'
  rw [w3_n (show ¬ (2 = 4 ∧ _) by omega), w3_n (show ¬ (3 = 4 ∧ _) by omega), w3_n (show ¬ (5 = 4 ∧ _) by omega)]
  refine ⟨h2.1, h2.2.1, ?_, h2.2.2.2.1, fun i hi => by rw [w3_n (by omega)]; exact h2.2.2.2.2 i hi⟩
  by_cases e : d' = d
  · subst e
    rw [w3_s]
    exact hn
  · rw [w3_n (by omega)]
    exact h2.2.2.1
theorem nRef_n {N : kN3} {d k f i j : Nat} (z : f ≠ 5 ∧ f ≠ 6) : nRef N d k f i j = N f i j := (w3_n (by omega)).trans (w3_n (by omega))
theorem okX.ref {S S' : kI4} {N : kN3} {d k : Nat} (h : okX S N) (hk : k < N 3 d 0) (hn : N 5 d 0 < 512) : okX S' (nRef N d k) := by
  refine ⟨by rw [nRef_n (by omega)]; exact h.1, fun d' hd' => ?_⟩
  have h2 := h.2 d' hd'
  rw [nRef_n (show 2 ≠ 5 ∧ _ by omega), nRef_n (show 3 ≠ 5 ∧ _ by omega), nRef_n (show 4 ≠ 5 ∧ _ by omega)]
  by_cases e : d' = d
  · subst e
    rw [show nRef N d' k 5 d' 0 = N 5 d' 0 + 1 from w3_s]
    refine ⟨h2.1, h2.2.1, h2.2.2.1, by omega, fun i hi => ?_⟩
    by_cases e2 : i = N 5 d' 0
    · rw [show nRef N d' k 6 d' i = k from (w3_n (by omega)).trans (by rw [e2]; exact w3_s)]
      exact hk
    · rw [show nRef N d' k 6 d' i = N 6 d' i from (w3_n (by omega)).trans (w3_n (by omega))]
      exact h2.2.2.2.2 i (by omega)
  · have e5 : nRef N d k 5 d' 0 = N 5 d' 0 := (w3_n (by omega)).trans (w3_n (by omega))
    refine ⟨h2.1, h2.2.1, h2.2.2.1, by rw [e5]; exact h2.2.2.2.1, fun i hi => ?_⟩
    rw [e5] at hi
    rw [show nRef N d k 6 d' i = N 6 d' i from (w3_n (by omega)).trans (w3_n (by omega))]
    exact h2.2.2.2.2 i hi

set_option maxHeartbeats 4000000 in
set_option maxRecDepth 100000 in
theorem c_send {l : Launch} (htr : l.stackTraces = false) {E : kE} {A : Nat → Prop} {C : kC} {L : kL} {S : kI4} {N : kN3} (hX : isX E C L S N) (hO : okX S N) (h54 : ∀ d, d < 4 → N 5 d 0 ≤ N 4 d 0) (dv most : Int32) (m0 : Nat) (hm0 : ∀ d mo, d < 4 → dv = nI d → mo ≤ 100 → most = nI mo → min mo (N 3 d 0 - N 4 d 0) ≤ m0) : kMX l yX5_send cX5_send 8 (some .int) 9 218 (2 + 6 * m0) (12 + 900 * m0) E A C L [.ref (L (1, 0, 0)), .int dv, .int most] (fun v C' L' => (∃ d, d < 4 ∧ dv = nI d ∧ ∃ mo, 1 ≤ mo ∧ mo ≤ 100 ∧ most = nI mo ∧ ∃ c S1 N1, xSnd S N d (min mo (N 3 d 0 - N 4 d 0)) c S1 N1 ∧ v = some (.int (nI c)) ∧ isX E C' L' (w4 S1 12 0 0 0 (S1 12 0 0 0 + nI c)) N1) ∧ kFr C L C' L' ∧ ∀ t : kT, t.1 ≤ 1 → L' t = L t) (fun X9 => (X9 = eIO ∧ ¬ kix dv 4) ∨ (X9 = eIA ∧ kix dv 4 ∧ ¬ (kin most (nI 1) (nI 100)))) := by
  obtain ⟨vl2, hl2⟩ := hX.1.2.1.hd
  have hb1 := hO.1
  refine kMX.of htr (by decide) (Nat.le_of_ble_eq_true rfl) (fun Γ hl hR hN X hE hT => ?_)
  refine k_lo (lo' := [(0, .ref (L (1, 0, 0))), (1, .int dv), (2, .int most)]) ⟨rfl, rfl, rfl, trivial⟩ ?_
  refine k_aload_n X dX5_send_0 rfl rfl ?_
  refine k_iload_n X dX5_send_1 rfl rfl ?_
  refine k_callVX (rest := []) X hT kv_X5_deviceAt kb_221 (c_deviceAt X.tr hX hO dv) (fun _ h => ⟨Or.inl h, rfl, rfl⟩) hX.1.1.1 rfl rfl rfl rfl rfl (Nat.le_of_ble_eq_true rfl) ⟨by rw [hR]; exact Nat.le_of_ble_eq_true rfl, by rw [hR]; exact Nat.le_of_ble_eq_true rfl⟩ ⟨by rw [hR]; dsimp only; omega, by rw [hR]; dsimp only; omega⟩ ⟨by omega, by omega⟩ dX5_send_2 (fun v2 C9 L9 h9 => ?_)
  obtain ⟨⟨d, hd, rfl, rfl⟩, rfl, rfl⟩ := h9
  obtain ⟨vl8, hl8⟩ := (hX.2 d hd).2.2.2.1.hd
  obtain ⟨vl10, hl10⟩ := (hX.2 d hd).2.2.2.2.1.hd
  obtain ⟨vl12, hl12⟩ := (hX.2 d hd).2.2.2.2.2.1.hd
  have hb2 := (hO.2 d hd).1
  have hb3 := (hO.2 d hd).2.1
  have hb4 := (hO.2 d hd).2.2.1
  have hb5 := (hO.2 d hd).2.2.2.1
  have hb6 := (hO.2 d hd).2.2.2.2
  refine k_astore_n X dX5_send_5 rfl (by rw [hN]; decide) ?_
  refine k_iload_n X dX5_send_6 rfl rfl ?_
  refine k_iconst (v := (nI 1)) X dX5_send_7 (by decide) ?_
  refine k_bipush (v := (nI 100)) X dX5_send_8 (by decide) ?_
  refine k_callSX (rest := []) X hT ks_X5_checkRange kb_84 (c_checkRange X.tr most (nI 1) (nI 100)) (fun _ h => ⟨Or.inr ⟨h.1, kix.of hd (by decide), h.2⟩, rfl, rfl⟩) rfl rfl (Nat.le_of_ble_eq_true rfl) ⟨by rw [hR]; exact Nat.le_of_ble_eq_true rfl, by rw [hR]; exact Nat.le_of_ble_eq_true rfl⟩ ⟨by rw [hR]; dsimp only; omega, by rw [hR]; dsimp only; omega⟩ ⟨by omega, by omega⟩ dX5_send_10 (fun v10 C9 L9 h9 => ?_)
  obtain ⟨hp, rfl, rfl, rfl⟩ := h9
  obtain ⟨mo, hm1, hm2, rfl⟩ := hp.ex (by decide) (by decide)
  refine k_iconst (v := (nI 0)) X dX5_send_13 (by decide) ?_
  refine k_istore X dX5_send_14 (by rw [hN]; decide) ?_
  refine k_iconst (v := (nI 0)) X dX5_send_16 (by decide) ?_
  refine k_istore X dX5_send_17 (by rw [hN]; decide) ?_
  have hTm := hm0 d mo hd rfl hm2 rfl
  have tail : ∀ (c : Nat) (C8 : kC) (L8 : kL) (S8 : kI4) (N8 : kN3), xSnd S N d (min mo (N 3 d 0 - N 4 d 0)) c S8 N8 → isX E C8 L8 S8 N8 → kFr C L C8 L8 → (∀ t : kT, (t.1 ≤ 1 ∨ t.1 = 5) → L8 t = L t) → kW Γ E A C8 L8 (2 + 6 * m0) (12 + 900 * m0) 75 [(0, .ref (L8 (1, 0, 0))), (1, .int (nI d)), (2, .int (nI mo)), (3, .ref (L8 (5, d, 0))), (4, .int (nI c))] [] := by
    intro c C8 L8 S8 N8 hs8 hX8 hfr8 hL8
    refine k_aload_n X dX5_send_75 rfl rfl ?_
    refine k_dup X dX5_send_76 rfl ?_
    refine k_get0 X hX8.1.1.1 (q := (RX5, TX5, 3)) rfl inlX5 2 (by decide) kb_16 (Or.inl rfl) rfl rfl dX5_send_77 ?_
    refine k_iload X dX5_send_80 rfl ?_
    refine k_iadd X dX5_send_82 ?_
    refine k_put1 X hX8.1.1.1 (fs9 := [.ref (L8 (2, 0, 0)), .ref (L8 (4, 0, 0)), .int ((S8 12 0 0 0) + (nI c))]) (q := (RX5, TX5, 3)) rfl inlX5 tyX5 tyX5_ok nmX5 2 (by decide) kb_16 (Or.inl rfl) (Or.inl rfl) rfl rfl rfl (Nat.le_of_ble_eq_true rfl) rfl dX5_send_83 ?_
    refine k_iload X dX5_send_86 rfl ?_
    exact k_iret X hE dX5_send_88 (by first | omega | exact Nat.le_of_ble_eq_true rfl | (dsimp only; omega)) (by first | omega | exact Nat.le_of_ble_eq_true rfl | (dsimp only; omega)) ⟨⟨d, hd, rfl, mo, hm1, hm2, rfl, c, S8, N8, hs8, rfl, isX.s1 (kup_s.trans (by simp [w4])) hX8 (fun f d' k z => kup_n (kne1 z)) (fun _ _ _ _ => rfl) (fun f d' k j z => w4_n (by omega)) (fun _ _ _ _ => rfl)⟩, hfr8.up (by decide), fun t ht => hL8 t (Or.inl ht)⟩
  have loop : ∀ (m s c : Nat) (C8 : kC) (L8 : kL) (S8 : kI4) (N8 : kN3), s + m = min mo (N 3 d 0 - N 4 d 0) → xSnd S N d s c S8 N8 → isX E C8 L8 S8 N8 → okX S8 N8 → N8 4 d 0 = N 4 d 0 + s → N8 3 d 0 = N 3 d 0 → N8 5 d 0 ≤ N8 4 d 0 → kFr C L C8 L8 → (∀ t : kT, (t.1 ≤ 1 ∨ t.1 = 5) → L8 t = L t) → kW Γ E A C8 L8 (2 + 6 * s) (12 + 900 * s) 19 [(0, .ref (L8 (1, 0, 0))), (1, .int (nI d)), (2, .int (nI mo)), (3, .ref (L8 (5, d, 0))), (4, .int (nI c)), (5, .int (nI s))] [] := by
    intro m
    induction m with
    | zero =>
      intro s c C8 L8 S8 N8 hsT hs8 hX8 hO8 hn4 hn3 hn5 hfr8 hL8
      have hb9 := hO8.2 d hd
      rw [Nat.add_zero] at hsT
      refine k_iload X dX5_send_19 rfl ?_
      refine k_iload_n X dX5_send_21 rfl rfl ?_
      by_cases hsm : s = mo
      ·
        refine k_icmp_ge (tgt := 75) X dX5_send_22 (by decide) (fun c22 => ?_) (fun c22 => absurd (nI_le (Nat.le_of_eq hsm.symm) (by omega)) c22)
        exact k_lo (lo' := [(0, .ref (L8 (1, 0, 0))), (1, .int (nI d)), (2, .int (nI mo)), (3, .ref (L8 (5, d, 0))), (4, .int (nI c))]) ⟨rfl, rfl, rfl, rfl, rfl, trivial⟩ (k_wide (by omega) (by omega) (tail c C8 L8 S8 N8 (hsT ▸ hs8) hX8 hfr8 hL8))
      ·
        refine k_icmp_ge (tgt := 75) X dX5_send_22 (by decide) (fun c22 => absurd c22 (nI_ge (by omega) (by omega))) (fun c22 => ?_)
        refine k_aload_n X dX5_send_25 rfl rfl ?_
        refine k_callV (rest := []) X kv_X1_takeAct kb_338 (c_takeAct X.tr hX8 hO8 hd) (hX8.2 d hd).1 rfl rfl rfl rfl rfl (Nat.le_of_ble_eq_true rfl) ⟨by rw [hR]; exact Nat.le_of_ble_eq_true rfl, by rw [hR]; exact Nat.le_of_ble_eq_true rfl⟩ ⟨by rw [hR]; dsimp only; omega, by rw [hR]; dsimp only; omega⟩ dX5_send_26 (fun v26 C9 L9 h9 => ?_)
        obtain ⟨h9, rfl, hfr9⟩ := h9
        obtain ⟨h34, rfl, rfl⟩ := h9.resolve_left (fun z => by have := z.1; omega)
        refine k_astoreN X dX5_send_29 (by rw [hN]; decide) ?_
        refine k_aloadN X dX5_send_31 rfl ?_
        refine k_ifnonnullN X dX5_send_33 ?_
        refine k_goto (tgt := 75) X dX5_send_36 (by decide) ?_
        exact k_lo (lo' := [(0, .ref (L8 (1, 0, 0))), (1, .int (nI d)), (2, .int (nI mo)), (3, .ref (L8 (5, d, 0))), (4, .int (nI c))]) ⟨rfl, rfl, rfl, rfl, rfl, trivial⟩ (k_wide (by omega) (by omega) (tail c C8 L8 S8 N8 (hsT ▸ hs8) hX8 hfr8 hL8))
    | succ m ih =>
      intro s c C8 L8 S8 N8 hsT hs8 hX8 hO8 hn4 hn3 hn5 hfr8 hL8
      have hb9 := hO8.2 d hd
      refine k_iload X dX5_send_19 rfl ?_
      refine k_iload_n X dX5_send_21 rfl rfl ?_
      refine k_icmp_ge (tgt := 75) X dX5_send_22 (by decide) (fun c22 => absurd c22 (nI_ge (by omega) (by omega))) (fun c22 => ?_)
      refine k_aload_n X dX5_send_25 rfl rfl ?_
      refine k_callV (rest := []) X kv_X1_takeAct kb_338 (c_takeAct X.tr hX8 hO8 hd) (hX8.2 d hd).1 rfl rfl rfl rfl rfl (Nat.le_of_ble_eq_true rfl) ⟨by rw [hR]; exact Nat.le_of_ble_eq_true rfl, by rw [hR]; exact Nat.le_of_ble_eq_true rfl⟩ ⟨by rw [hR]; dsimp only; omega, by rw [hR]; dsimp only; omega⟩ dX5_send_26 (fun v26 C9 L9 h9 => ?_)
      obtain ⟨h9, rfl, hfr9⟩ := h9
      obtain ⟨h34, rfl, hX9⟩ := h9.resolve_right (fun z => by have := z.1; omega)
      have hO9 : okX S8 (w3 N8 4 d 0 (N8 4 d 0 + 1)) := okX.take hO8 h34
      have hk9 : N8 4 d 0 < w3 N8 4 d 0 (N8 4 d 0 + 1) 3 d 0 := by rw [w3_n (by omega)]; exact h34
      refine k_astore X dX5_send_29 (by rw [hN]; decide) ?_
      refine k_aload X dX5_send_31 rfl ?_
      refine k_ifnonnull (tgt := 39) X dX5_send_33 (by decide) ?_
      refine k_aload_n X dX5_send_39 rfl rfl ?_
      refine k_iload_n X dX5_send_40 rfl rfl ?_
      refine k_aload_n X dX5_send_41 rfl rfl ?_
      refine k_aload X dX5_send_42 rfl ?_
      refine k_callV (rest := []) X kv_X5_deliver kb_343 (c_deliver X.tr hX9 hO9 hd hk9) hX9.1.1.1 rfl rfl rfl rfl rfl (Nat.le_of_ble_eq_true rfl) ⟨by rw [hR]; exact Nat.le_of_ble_eq_true rfl, by rw [hR]; exact Nat.le_of_ble_eq_true rfl⟩ ⟨by rw [hR]; dsimp only; omega, by rw [hR]; dsimp only; omega⟩ dX5_send_44 (fun v44 C9 L9 h9 => ?_)
      obtain ⟨r, S1, N1, rfl, hdel, g1, g2, g3⟩ := h9
      obtain ⟨hO1, hN1⟩ := xDel_ok hdel hO9
      have e4 : N1 4 d 0 = N8 4 d 0 + 1 := (hN1 4 d 0 (by decide) (by decide)).trans w3_s
      have e3 : N1 3 d 0 = N8 3 d 0 := (hN1 3 d 0 (by decide) (by decide)).trans (w3_n (by omega))
      have e5 : N1 5 d 0 = N8 5 d 0 := (hN1 5 d 0 (by decide) (by decide)).trans (w3_n (by omega))
      refine k_abs2 (fun C' L' => isX E C' L' S1 N1 ∧ kFr C L C' L' ∧ ∀ t : kT, (t.1 ≤ 1 ∨ t.1 = 5 ∨ t.1 = 19) → L' t = L8 t) ⟨g1, (hfr8.tr hfr9).tr g2, g3⟩ (fun C7 L7 h7 => ?_)
      refine k_lo (lo' := [(0, .ref (L7 (1, 0, 0))), (1, .int (nI d)), (2, .int (nI mo)), (3, .ref (L7 (5, d, 0))), (4, .int (nI c)), (5, .int (nI s)), (6, .ref (L7 (19, d, N8 4 d 0)))]) ⟨kLR (h7.2.2 (1, 0, 0) (by first | exact Or.inl (show (1 : Nat) ≤ 1 by decide) | exact Or.inr (Or.inl (show (1 : Nat) = 5 by decide)) | exact Or.inr (Or.inr (show (1 : Nat) = 19 by decide)))), rfl, rfl, kLR (h7.2.2 (5, d, 0) (by first | exact Or.inl (show (5 : Nat) ≤ 1 by decide) | exact Or.inr (Or.inl (show (5 : Nat) = 5 by decide)) | exact Or.inr (Or.inr (show (5 : Nat) = 19 by decide)))), rfl, rfl, kLR (h7.2.2 (19, d, N8 4 d 0) (by first | exact Or.inl (show (19 : Nat) ≤ 1 by decide) | exact Or.inr (Or.inl (show (19 : Nat) = 5 by decide)) | exact Or.inr (Or.inr (show (19 : Nat) = 19 by decide)))), trivial⟩ ?_
      refine k_istore X dX5_send_47 (by rw [hN]; decide) ?_
      refine k_iload X dX5_send_49 rfl ?_
      refine k_iconst (v := (-1)) X dX5_send_51 (by decide) ?_
      refine k_icmp_ne (tgt := 61) X dX5_send_52 (by decide) (fun c52 => ?_) (fun c52 => ?_)
      ·
        refine k_aload_n X dX5_send_61 rfl rfl ?_
        refine k_aload X dX5_send_62 rfl ?_
        refine k_iload X dX5_send_64 rfl ?_
        refine k_callV (rest := []) X kv_X1_refuse kb_372 (c_refuse X.tr h7.1 hO1 hd (k := N8 4 d 0) (by omega) r) (h7.1.2 d hd).1 rfl rfl rfl rfl rfl (Nat.le_of_ble_eq_true rfl) ⟨by rw [hR]; exact Nat.le_of_ble_eq_true rfl, by rw [hR]; exact Nat.le_of_ble_eq_true rfl⟩ ⟨by rw [hR]; dsimp only; omega, by rw [hR]; dsimp only; omega⟩ dX5_send_66 (fun v66 C9 L9 h9 => ?_)
        obtain ⟨rfl, g4, g5, g6⟩ := h9
        refine k_lo (lo' := [(0, .ref (L9 (1, 0, 0))), (1, .int (nI d)), (2, .int (nI mo)), (3, .ref (L9 (5, d, 0))), (4, .int (nI c)), (5, .int (nI s))]) ⟨kLR (g6 (1, 0, 0) (show (1 : Nat) ≠ 13 by decide)), rfl, rfl, kLR (g6 (5, d, 0) (show (5 : Nat) ≠ 13 by decide)), rfl, rfl, trivial⟩ ?_
        refine k_iinc (v := (nI (s + 1))) X dX5_send_69 rfl (by rw [show Int32.ofInt 1 = nI 1 from by decide, nI_add]) (by rw [hN]; decide) ?_
        refine k_goto (tgt := 19) X dX5_send_72 (by decide) ?_
        refine k_lo (lo' := [(0, .ref (L9 (1, 0, 0))), (1, .int (nI d)), (2, .int (nI mo)), (3, .ref (L9 (5, d, 0))), (4, .int (nI (c))), (5, .int (nI (s + 1)))]) ⟨rfl, rfl, rfl, rfl, rfl, rfl, trivial⟩ ?_
        exact k_wide (by omega) (by omega) (ih (s + 1) c C9 L9 (w4 S1 11 d (N8 4 d 0) 4 r) (nRef N1 d (N8 4 d 0)) (by omega) ⟨c, S8, N8, 0, hs8, ⟨r, S1, N1, hdel, Or.inr ⟨c52, rfl, rfl, rfl⟩⟩, rfl⟩ g4 (okX.ref (S := S1) hO1 (by omega) (by omega)) (by rw [nRef_n (by omega)]; omega) (by rw [nRef_n (by omega)]; omega) (by rw [nRef_n (show 4 ≠ 5 ∧ 4 ≠ 6 by omega), show nRef N1 d (N8 4 d 0) 5 d 0 = N1 5 d 0 + 1 from w3_s]; omega) (h7.2.1.tr g5) (fun t ht => (g6 t (by omega)).trans ((h7.2.2 t (by omega)).trans (hL8 t ht))))
      ·
        refine k_iinc (v := (nI (c + 1))) X dX5_send_55 rfl (by rw [show Int32.ofInt 1 = nI 1 from by decide, nI_add]) (by rw [hN]; decide) ?_
        refine k_goto (tgt := 69) X dX5_send_58 (by decide) ?_
        refine k_iinc (v := (nI (s + 1))) X dX5_send_69 rfl (by rw [show Int32.ofInt 1 = nI 1 from by decide, nI_add]) (by rw [hN]; decide) ?_
        refine k_goto (tgt := 19) X dX5_send_72 (by decide) ?_
        refine k_lo (lo' := [(0, .ref (L7 (1, 0, 0))), (1, .int (nI d)), (2, .int (nI mo)), (3, .ref (L7 (5, d, 0))), (4, .int (nI (c + 1))), (5, .int (nI (s + 1)))]) ⟨rfl, rfl, rfl, rfl, rfl, rfl, trivial⟩ ?_
        exact k_wide (by omega) (by omega) (ih (s + 1) (c + 1) C7 L7 S1 N1 (by omega) ⟨c, S8, N8, 1, hs8, ⟨r, S1, N1, hdel, Or.inl ⟨c52, rfl, rfl, rfl⟩⟩, rfl⟩ h7.1 hO1 (by omega) (by omega) (by omega) h7.2.1 (fun t ht => (h7.2.2 t (by omega)).trans (hL8 t ht)))
  exact k_lo (lo' := [(0, .ref (L (1, 0, 0))), (1, .int (nI d)), (2, .int (nI mo)), (3, .ref (L (5, d, 0))), (4, .int (nI 0)), (5, .int (nI 0))]) ⟨rfl, rfl, rfl, rfl, rfl, rfl, trivial⟩ (loop (min mo (N 3 d 0 - N 4 d 0)) 0 0 C L S N (by omega) ⟨rfl, rfl, rfl⟩ hX hO rfl rfl (h54 d hd) kFr.rf (fun _ _ => rfl))
end
section
theorem c_AL_initA {l : Launch} (htr : l.stackTraces = false) {E : kE} {A : Nat → Prop} {C : kC} {L : kL} {th : kT} {q0 : Nat} {a b : Int32} {v1 : Value} (ha : L th = q0) (h : C th = some (.inr (0, [.int a, v1, .int b]))) : kM l yJx4a65c_init_da8c8 cJx4a65c_init_da8c8 1 none 3 52 0 0 E A C L [.ref q0] (fun v C' L' => v = none ∧ L = L' ∧ C' = kup C th (some (.inr (0, [.int (nI 0), .ref E.2.2.1, .int b])))) := by
  subst ha
  exact c_AL_init htr h
/-- a fresh store -/
def S00 : kI4 := fun f _ _ _ => if f = 4 then nI 10 else nI 0
def N00 : kN3 := fun _ _ _ => 0
theorem kLs.e {E : kE} {C : kC} {L : kL} {fh fa d : Nat} {g : Nat → Nat} (h : C (fh, d, 0) = some (.inr (0, [.int (nI 0), .ref E.2.2.1, .int (nI 0)]))) : kLs E C L fh fa d 0 g :=
  ⟨0, E.2.2.1, h, Or.inl ⟨rfl, rfl, rfl, funext fun j => if_neg (Nat.not_lt_zero j)⟩⟩
theorem kfst0 {g : Nat → Nat} : kfst 0 g = fun _ => none := funext fun j => if_neg (Nat.not_lt_zero j)

/-- t isn't of device d's own -/
def kNd (d : Nat) (t : kT) : Prop := (t.1 ≤ 4 ∨ 12 < t.1) ∨ t.2.1 ≠ d
theorem kNd.n {d : Nat} {t : kT} (h : kNd d t) {f : Nat} (h1 : 5 ≤ f) (h2 : f ≤ 12) : t ≠ (f, d, 0) := fun e => by
  subst e
  rcases h with (h | h) | h
  · exact absurd h (by show ¬ f ≤ 4; omega)
  · exact absurd h (by show ¬ 12 < f; omega)
  · exact h rfl
theorem kdev0 {C : kC} {L : kL} {d p6 p7 p8 p10 p12 : Nat} (h : C (5, d, 0) = some (.inr (2, [.int (nI 10), .ref p6, .ref p7, .int (nI 0), .ref p8, .int (nI 0), .ref p10, .int (nI 0), .ref p12]))) (h6 : L (6, d, 0) = p6) (h7 : L (7, d, 0) = p7) (h8 : L (8, d, 0) = p8) (h10 : L (10, d, 0) = p10) (h12 : L (12, d, 0) = p12) : C (5, d, 0) = some (kDev L S00 N00 d) := by
  subst h6 h7 h8 h10 h12
  exact h

set_option maxHeartbeats 4000000 in
set_option maxRecDepth 100000 in
theorem c_X1_init {l : Launch} (htr : l.stackTraces = false) {E : kE} {A : Nat → Prop} {C : kC} {L : kL} {q0 d : Nat} {a0 a1 a2 a3 : Int32} {b0 b1 b2 b3 b4 : Value} (ha : L (5, d, 0) = q0) (h : C (5, d, 0) = some (.inr (2, [.int a0, b0, b1, .int a1, b2, .int a2, b3, .int a3, b4]))) : kM l yX1_init cX1_init 1 none 4 72 5 89 E A C L [.ref q0] (fun v C' L' => v = none ∧ isD E C' L' S00 N00 d ∧ (∀ t : kT, kNd d t → C' t = C t ∧ L' t = L t) ∧ L' (5, d, 0) = L (5, d, 0)) := by
  refine kM.of htr (by decide) (Nat.le_of_ble_eq_true rfl) (fun Γ hl hR hN hnm X hE => ?_)
  refine k_lo (lo' := [(0, .ref q0)]) ⟨rfl, trivial⟩ ?_
  refine k_aload_n X dX1_init_0 rfl rfl ?_
  refine k_objInit X kb_36 kb_8 kb_9 (by rw [hR]; exact Nat.le_of_ble_eq_true rfl) (by rw [hR]; exact Nat.le_of_ble_eq_true rfl) dX1_init_1 ?_
  refine k_aload_n X dX1_init_4 rfl rfl ?_
  refine k_bipush (v := (nI 10)) X dX1_init_5 (by decide) ?_
  refine k_put1 X h (fs9 := [.int (nI 10), b0, b1, .int a1, b2, .int a2, b3, .int a3, b4]) (q := (RX1, TX1, 9)) rfl inlX1 tyX1 tyX1_ok nmX1 0 (by decide) kb_37 (Or.inl rfl) (Or.inl rfl) ha rfl rfl (Nat.le_of_ble_eq_true rfl) rfl dX1_init_7 ?_
  refine k_aload_n X dX1_init_10 rfl rfl ?_
  refine k_bipush (v := (nI 40)) X dX1_init_11 (by decide) ?_
  refine k_newq X (6, d, 0) 4 (nm := RX2) 40 rfl (by simp) kb_38 (by decide) (by decide) (by decide) dX1_init_13 (by rw [hR]; exact Nat.le_of_ble_eq_true rfl) (by rw [hR]; exact Nat.le_of_ble_eq_true rfl) (fun q6 => ?_)
  refine k_put1 X ((kup_n (kne1 (by decide))).trans kup_s) (fs9 := [.int (nI 10), .ref q6, b1, .int a1, b2, .int a2, b3, .int a3, b4]) (q := (RX1, TX1, 9)) rfl inlX1 tyX1 tyX1_ok nmX1 1 (by decide) kb_39 (Or.inl rfl) (Or.inr ⟨hnm, rfl⟩) ((kup_n (kne1 (by decide))).trans ha) rfl rfl (Nat.le_of_ble_eq_true rfl) rfl dX1_init_16 ?_
  refine k_aload_n X dX1_init_19 rfl rfl ?_
  refine k_bipush (v := (nI 40)) X dX1_init_20 (by decide) ?_
  refine k_newz X (7, d, 0) 40 kb_40 (by decide) (by decide) (by decide) dX1_init_22 (by rw [hR]; exact Nat.le_of_ble_eq_true rfl) (by rw [hR]; exact Nat.le_of_ble_eq_true rfl) (fun q7 => ?_)
  refine k_put1 X ((kup_n (kne1 (by decide))).trans kup_s) (fs9 := [.int (nI 10), .ref q6, .ref q7, .int a1, b2, .int a2, b3, .int a3, b4]) (q := (RX1, TX1, 9)) rfl inlX1 tyX1 tyX1_ok nmX1 2 (by decide) kb_41 (Or.inl rfl) (Or.inr ⟨hnm, rfl⟩) ((kup_n (kne1 (by decide))).trans ((kup_n (kne1 (by decide))).trans ha)) rfl rfl (Nat.le_of_ble_eq_true rfl) rfl dX1_init_24 ?_
  refine k_aload_n X dX1_init_27 rfl rfl ?_
  refine k_iconst (v := (nI 0)) X dX1_init_28 (by decide) ?_
  refine k_putS X (fs9 := [.int (nI 10), .ref q6, .ref q7, .int (nI 0), b2, .int a2, b3, .int a3, b4]) (q := (RX1, TX1, 9)) rfl inlX1 tyX1 tyX1_ok nmX1 3 (by decide) kb_42 (Or.inl rfl) (Or.inl rfl) ((kup_n (kne1 (by decide))).trans ((kup_n (kne1 (by decide))).trans ha)) rfl rfl (Nat.le_of_ble_eq_true rfl) rfl dX1_init_29 ?_
  refine k_aload_n X dX1_init_32 rfl rfl ?_
  refine k_new0 X (8, d, 0) (ci := 0) (q := (RJx4a65c, TJx4a65c, 3)) rfl inlJx4a65c tyJx4a65c tyJx4a65c_ok kb_43 kb_11 kb_12 (fs := [.int 0, .null, .int (nI 0)]) (fun j hj => by rcases (show j = 0 ∨ j = 1 ∨ j = 2 from by have : j < 3 := hj; omega) with rfl | rfl | rfl <;> rfl) dX1_init_33 (by rw [hR]; exact Nat.le_of_ble_eq_true rfl) (by rw [hR]; exact Nat.le_of_ble_eq_true rfl) (fun q8 => ?_)
  refine k_dup X dX1_init_36 rfl ?_
  refine k_callI (rest := [.ref q8, .ref q0]) X ki_Jx4a65c_init_da8c8 kb_49 (c_AL_initA X.tr (th := (8, d, 0)) kup_s kup_s) rfl rfl (Nat.le_of_ble_eq_true rfl) ⟨by rw [hR]; exact Nat.le_of_ble_eq_true rfl, by rw [hR]; exact Nat.le_of_ble_eq_true rfl⟩ ⟨by rw [hR]; exact Nat.le_of_ble_eq_true rfl, by rw [hR]; exact Nat.le_of_ble_eq_true rfl⟩ dX1_init_37 (fun v37 C9 L9 h9 => ?_)
  obtain ⟨rfl, rfl, rfl⟩ := h9
  refine k_C (kup_kup).symm ?_
  refine k_put1 X ((kup_n (kne1 (by decide))).trans kup_s) (fs9 := [.int (nI 10), .ref q6, .ref q7, .int (nI 0), .ref q8, .int a2, b3, .int a3, b4]) (q := (RX1, TX1, 9)) rfl inlX1 tyX1 tyX1_ok nmX1 4 (by decide) kb_44 (Or.inl rfl) (Or.inr ⟨hnm, rfl⟩) ((kup_n (kne1 (by decide))).trans ((kup_n (kne1 (by decide))).trans ((kup_n (kne1 (by decide))).trans ha))) rfl rfl (Nat.le_of_ble_eq_true rfl) rfl dX1_init_40 ?_
  refine k_aload_n X dX1_init_43 rfl rfl ?_
  refine k_iconst (v := (nI 0)) X dX1_init_44 (by decide) ?_
  refine k_putS X (fs9 := [.int (nI 10), .ref q6, .ref q7, .int (nI 0), .ref q8, .int (nI 0), b3, .int a3, b4]) (q := (RX1, TX1, 9)) rfl inlX1 tyX1 tyX1_ok nmX1 5 (by decide) kb_45 (Or.inl rfl) (Or.inl rfl) ((kup_n (kne1 (by decide))).trans ((kup_n (kne1 (by decide))).trans ((kup_n (kne1 (by decide))).trans ha))) rfl rfl (Nat.le_of_ble_eq_true rfl) rfl dX1_init_45 ?_
  refine k_aload_n X dX1_init_48 rfl rfl ?_
  refine k_new0 X (10, d, 0) (ci := 0) (q := (RJx4a65c, TJx4a65c, 3)) rfl inlJx4a65c tyJx4a65c tyJx4a65c_ok kb_43 kb_11 kb_12 (fs := [.int 0, .null, .int (nI 0)]) (fun j hj => by rcases (show j = 0 ∨ j = 1 ∨ j = 2 from by have : j < 3 := hj; omega) with rfl | rfl | rfl <;> rfl) dX1_init_49 (by rw [hR]; exact Nat.le_of_ble_eq_true rfl) (by rw [hR]; exact Nat.le_of_ble_eq_true rfl) (fun q10 => ?_)
  refine k_dup X dX1_init_52 rfl ?_
  refine k_callI (rest := [.ref q10, .ref q0]) X ki_Jx4a65c_init_da8c8 kb_49 (c_AL_initA X.tr (th := (10, d, 0)) kup_s kup_s) rfl rfl (Nat.le_of_ble_eq_true rfl) ⟨by rw [hR]; exact Nat.le_of_ble_eq_true rfl, by rw [hR]; exact Nat.le_of_ble_eq_true rfl⟩ ⟨by rw [hR]; exact Nat.le_of_ble_eq_true rfl, by rw [hR]; exact Nat.le_of_ble_eq_true rfl⟩ dX1_init_53 (fun v53 C9 L9 h9 => ?_)
  obtain ⟨rfl, rfl, rfl⟩ := h9
  refine k_C (kup_kup).symm ?_
  refine k_put1 X ((kup_n (kne1 (by decide))).trans kup_s) (fs9 := [.int (nI 10), .ref q6, .ref q7, .int (nI 0), .ref q8, .int (nI 0), .ref q10, .int a3, b4]) (q := (RX1, TX1, 9)) rfl inlX1 tyX1 tyX1_ok nmX1 6 (by decide) kb_46 (Or.inl rfl) (Or.inr ⟨hnm, rfl⟩) ((kup_n (kne1 (by decide))).trans ((kup_n (kne1 (by decide))).trans ((kup_n (kne1 (by decide))).trans ((kup_n (kne1 (by decide))).trans ha)))) rfl rfl (Nat.le_of_ble_eq_true rfl) rfl dX1_init_56 ?_
  refine k_aload_n X dX1_init_59 rfl rfl ?_
  refine k_iconst (v := (nI 0)) X dX1_init_60 (by decide) ?_
  refine k_putS X (fs9 := [.int (nI 10), .ref q6, .ref q7, .int (nI 0), .ref q8, .int (nI 0), .ref q10, .int (nI 0), b4]) (q := (RX1, TX1, 9)) rfl inlX1 tyX1 tyX1_ok nmX1 7 (by decide) kb_47 (Or.inl rfl) (Or.inl rfl) ((kup_n (kne1 (by decide))).trans ((kup_n (kne1 (by decide))).trans ((kup_n (kne1 (by decide))).trans ((kup_n (kne1 (by decide))).trans ha)))) rfl rfl (Nat.le_of_ble_eq_true rfl) rfl dX1_init_61 ?_
  refine k_aload_n X dX1_init_64 rfl rfl ?_
  refine k_new0 X (12, d, 0) (ci := 0) (q := (RJx4a65c, TJx4a65c, 3)) rfl inlJx4a65c tyJx4a65c tyJx4a65c_ok kb_43 kb_11 kb_12 (fs := [.int 0, .null, .int (nI 0)]) (fun j hj => by rcases (show j = 0 ∨ j = 1 ∨ j = 2 from by have : j < 3 := hj; omega) with rfl | rfl | rfl <;> rfl) dX1_init_65 (by rw [hR]; exact Nat.le_of_ble_eq_true rfl) (by rw [hR]; exact Nat.le_of_ble_eq_true rfl) (fun q12 => ?_)
  refine k_dup X dX1_init_68 rfl ?_
  refine k_callI (rest := [.ref q12, .ref q0]) X ki_Jx4a65c_init_da8c8 kb_49 (c_AL_initA X.tr (th := (12, d, 0)) kup_s kup_s) rfl rfl (Nat.le_of_ble_eq_true rfl) ⟨by rw [hR]; exact Nat.le_of_ble_eq_true rfl, by rw [hR]; exact Nat.le_of_ble_eq_true rfl⟩ ⟨by rw [hR]; exact Nat.le_of_ble_eq_true rfl, by rw [hR]; exact Nat.le_of_ble_eq_true rfl⟩ dX1_init_69 (fun v69 C9 L9 h9 => ?_)
  obtain ⟨rfl, rfl, rfl⟩ := h9
  refine k_C (kup_kup).symm ?_
  refine k_put1 X ((kup_n (kne1 (by decide))).trans kup_s) (fs9 := [.int (nI 10), .ref q6, .ref q7, .int (nI 0), .ref q8, .int (nI 0), .ref q10, .int (nI 0), .ref q12]) (q := (RX1, TX1, 9)) rfl inlX1 tyX1 tyX1_ok nmX1 8 (by decide) kb_48 (Or.inl rfl) (Or.inr ⟨hnm, rfl⟩) ((kup_n (kne1 (by decide))).trans ((kup_n (kne1 (by decide))).trans ((kup_n (kne1 (by decide))).trans ((kup_n (kne1 (by decide))).trans ((kup_n (kne1 (by decide))).trans ha))))) rfl rfl (Nat.le_of_ble_eq_true rfl) rfl dX1_init_72 ?_
  exact k_vret X hE dX1_init_75 (by first | omega | exact Nat.le_of_ble_eq_true rfl | (dsimp only; omega)) (by first | omega | exact Nat.le_of_ble_eq_true rfl | (dsimp only; omega)) ⟨rfl, ⟨kdev0 kup_s ((kup_n (kne1 (by decide))).trans ((kup_n (kne1 (by decide))).trans ((kup_n (kne1 (by decide))).trans ((kup_n (kne1 (by decide))).trans kup_s)))) ((kup_n (kne1 (by decide))).trans ((kup_n (kne1 (by decide))).trans ((kup_n (kne1 (by decide))).trans kup_s))) ((kup_n (kne1 (by decide))).trans ((kup_n (kne1 (by decide))).trans kup_s)) ((kup_n (kne1 (by decide))).trans kup_s) kup_s, ((kup_n (kne1 (by decide))).trans ((kup_n (kne1 (by decide))).trans ((kup_n (kne1 (by decide))).trans ((kup_n (kne1 (by decide))).trans ((kup_n (kne1 (by decide))).trans ((kup_n (kne1 (by decide))).trans ((kup_n (kne1 (by decide))).trans ((kup_n (kne1 (by decide))).trans ((kup_n (kne1 (by decide))).trans kup_s))))))))), ((kup_n (kne1 (by decide))).trans ((kup_n (kne1 (by decide))).trans ((kup_n (kne1 (by decide))).trans ((kup_n (kne1 (by decide))).trans ((kup_n (kne1 (by decide))).trans ((kup_n (kne1 (by decide))).trans ((kup_n (kne1 (by decide))).trans kup_s))))))), kLs.e ((kup_n (kne1 (by decide))).trans ((kup_n (kne1 (by decide))).trans ((kup_n (kne1 (by decide))).trans ((kup_n (kne1 (by decide))).trans ((kup_n (kne1 (by decide))).trans kup_s))))), kLs.e ((kup_n (kne1 (by decide))).trans ((kup_n (kne1 (by decide))).trans ((kup_n (kne1 (by decide))).trans kup_s))), kLs.e ((kup_n (kne1 (by decide))).trans kup_s), fun n h => absurd rfl h, fun k h => absurd h (Nat.not_lt_zero k), fun k h => absurd h (Nat.not_lt_zero k)⟩, fun t h => ⟨by simp only [kup_n (h.n (f := 5) (by decide) (by decide)), kup_n (h.n (f := 6) (by decide) (by decide)), kup_n (h.n (f := 7) (by decide) (by decide)), kup_n (h.n (f := 8) (by decide) (by decide)), kup_n (h.n (f := 10) (by decide) (by decide)), kup_n (h.n (f := 12) (by decide) (by decide))], by simp only [kup_n (h.n (f := 6) (by decide) (by decide)), kup_n (h.n (f := 7) (by decide) (by decide)), kup_n (h.n (f := 8) (by decide) (by decide)), kup_n (h.n (f := 10) (by decide) (by decide)), kup_n (h.n (f := 12) (by decide) (by decide))]⟩, by simp only [kup_n (kne1 (by decide) : ((5, d, 0) : kT) ≠ (6, d, 0)), kup_n (kne1 (by decide) : ((5, d, 0) : kT) ≠ (7, d, 0)), kup_n (kne1 (by decide) : ((5, d, 0) : kT) ≠ (8, d, 0)), kup_n (kne1 (by decide) : ((5, d, 0) : kT) ≠ (10, d, 0)), kup_n (kne1 (by decide) : ((5, d, 0) : kT) ≠ (12, d, 0))]⟩

/-- a store whose first i devices are there -/
def kJn (E : kE) (C : kC) (L : kL) (i : Nat) : Prop := ((C (1, 0, 0) = some (.inr (6, [.ref (L (2, 0, 0)), .ref (L (4, 0, 0)), .int (nI 0)])) ∧ C (60, 0, 0) = none) ∧ C (2, 0, 0) = some (.inr (0, [.int (nI 0), .ref E.2.2.1, .int (nI 0)])) ∧ C (4, 0, 0) = some (.inl (E.2.1 5, 4, .inr (.inr (.inr (.inr (kfst i (fun d => L (5, d, 0)))))))) ∧ ∀ d, d < i → isD E C L S00 N00 d)
theorem kJn.x {E : kE} {C : kC} {L : kL} (h : kJn E C L 4) : isX E C L S00 N00 := ⟨⟨h.1, kLs.e h.2.1, h.2.2.1, fun i hi => absurd hi (Nat.not_lt_zero i)⟩, h.2.2.2⟩

theorem kst0 {C : kC} {L : kL} {p2 p4 : Nat} (h : C (1, 0, 0) = some (.inr (6, [.ref p2, .ref p4, .int (nI 0)]))) (h2 : L (2, 0, 0) = p2) (h4 : L (4, 0, 0) = p4) : C (1, 0, 0) = some (.inr (6, [.ref (L (2, 0, 0)), .ref (L (4, 0, 0)), .int (nI 0)])) := by
  subst h2 h4
  exact h

theorem kJn.up {E : kE} {C C9 : kC} {L L9 : kL} {i q9 : Nat} (hJ : kJn E C L i) (hi : i < 4) (hk : ∀ t : kT, kNd i t → C9 t = C t ∧ L9 t = L t) (hD : isD E C9 L9 S00 N00 i) (hq : L9 (5, i, 0) = q9) : kJn E (kup C9 (4, 0, 0) (some (.inl (E.2.1 5, 4, .inr (.inr (.inr (.inr (va_up (kfst i (fun d => L (5, d, 0))) i (some q9))))))))) L9 (i + 1) := by
  have o : ∀ f k, f ≤ 4 ∨ f = 60 → kNd i (f, 0, k) := fun f k h => Or.inl (by rcases h with h | h; { exact Or.inl h }; { exact Or.inr (by show 12 < f; omega) })
  refine ⟨⟨?_, ?_⟩, ?_, ?_, fun d hd => ?_⟩
  · rw [kup_n (kne1 (by decide)), (hk _ (o 1 0 (by decide))).1, (hk _ (o 2 0 (by decide))).2, (hk _ (o 4 0 (by decide))).2]
    exact hJ.1.1
  · rw [kup_n (kne1 (by decide)), (hk _ (o 60 0 (by decide))).1]
    exact hJ.1.2
  · rw [kup_n (kne1 (by decide)), (hk _ (o 2 0 (by decide))).1]
    exact hJ.2.1
  · rw [kup_s, kfst_up (g' := fun d => L9 (5, d, 0)) (fun j hj => ?_) hq]
    exact (hk _ (Or.inr (show j ≠ i by omega))).2
  · by_cases e : d = i
    · subst e
      exact hD.keep (fun f k h1 _ _ _ => kup_n (kne1 (by omega))) (fun _ _ _ _ _ _ => rfl) (fun _ _ _ _ _ => rfl) (fun _ _ _ _ => rfl)
    · exact (hJ.2.2.2 d (by omega)).keep (fun f k h1 _ _ _ => (kup_n (kne1 (by omega))).trans (hk _ (Or.inr e)).1) (fun f k _ _ _ _ => (hk _ (Or.inr e)).2) (fun _ _ _ _ _ => rfl) (fun _ _ _ _ => rfl)

set_option maxHeartbeats 4000000 in
set_option maxRecDepth 100000 in
theorem c_X5_init {l : Launch} (htr : l.stackTraces = false) {E : kE} {A : Nat → Prop} {C : kC} {L : kL} {q0 : Nat} {a0 : Int32} {b0 b1 : Value} (ha : L (1, 0, 0) = q0) (h : C (1, 0, 0) = some (.inr (6, [b0, b1, .int a0]))) (h60 : C (60, 0, 0) = none) : kM l yX5_init cX5_init 2 none 5 92 26 399 E A C L [.ref q0] (fun v C' L' => v = none ∧ isX E C' L' S00 N00 ∧ kFr C L C' L' ∧ L' (1, 0, 0) = L (1, 0, 0)) := by
  refine kM.of htr (by decide) (Nat.le_of_ble_eq_true rfl) (fun Γ hl hR hN hnm X hE => ?_)
  refine k_lo (lo' := [(0, .ref q0)]) ⟨rfl, trivial⟩ ?_
  have loop : ∀ (m i : Nat) (C8 : kC) (L8 : kL), i + m = 4 → kJn E C8 L8 i → kFr C L C8 L8 → L8 (1, 0, 0) = L (1, 0, 0) → kW Γ E A C8 L8 (2 + 6 * i) (7 + 98 * i) 30 [(0, .ref (L8 (1, 0, 0))), (1, .int (nI i))] [] := by
    intro m
    induction m with
    | zero =>
      intro i C8 L8 hi hJ hfr8 hL8
      have e4 : i = 4 := by omega
      subst e4
      refine k_iload_n X dX5_init_30 rfl rfl ?_
      refine k_iconst (v := (nI 4)) X dX5_init_31 (by decide) ?_
      refine k_icmp_ge (tgt := 54) X dX5_init_32 (by decide) (fun c32 => ?_) (fun c32 => absurd (nI_le (Nat.le_refl 4) (by decide)) c32)
      exact k_vret X hE dX5_init_54 (by first | omega | exact Nat.le_of_ble_eq_true rfl | (dsimp only; omega)) (by first | omega | exact Nat.le_of_ble_eq_true rfl | (dsimp only; omega)) ⟨rfl, kJn.x hJ, hfr8, hL8⟩
    | succ m ih =>
      intro i C8 L8 hi hJ hfr8 hL8
      have hi2 : i < 4 := by omega
      refine k_iload_n X dX5_init_30 rfl rfl ?_
      refine k_iconst (v := (nI 4)) X dX5_init_31 (by decide) ?_
      refine k_icmp_ge (tgt := 54) X dX5_init_32 (by decide) (fun c32 => absurd c32 (nI_ge hi2 (by decide))) (fun c32 => ?_)
      refine k_aload_n X dX5_init_35 rfl rfl ?_
      refine k_get0 X hJ.1.1 (q := (RX5, TX5, 3)) rfl inlX5 1 (by decide) kb_15 (Or.inl rfl) rfl rfl dX5_init_36 ?_
      refine k_iload_n X dX5_init_39 rfl rfl ?_
      refine k_new0 X (5, i, 0) (ci := 2) (q := (RX1, TX1, 9)) rfl inlX1 tyX1 tyX1_ok kb_14 kb_17 kb_18 (fs := [.int 0, .null, .null, .int 0, .null, .int 0, .null, .int 0, .null]) (fun j hj => by rcases (show j = 0 ∨ j = 1 ∨ j = 2 ∨ j = 3 ∨ j = 4 ∨ j = 5 ∨ j = 6 ∨ j = 7 ∨ j = 8 from by have : j < 9 := hj; omega) with rfl | rfl | rfl | rfl | rfl | rfl | rfl | rfl | rfl <;> rfl) dX5_init_40 (by rw [hR]; dsimp only; omega) (by rw [hR]; dsimp only; omega) (fun q9 => ?_)
      refine k_dup X dX5_init_43 rfl ?_
      refine k_callIN (rest := [.ref q9, .int (nI i), .ref (L8 (4, 0, 0))]) X ki_X1_init (host := RX5) (by decide +kernel) (c_X1_init X.tr (d := i) kup_s kup_s) rfl rfl (Nat.le_of_ble_eq_true rfl) ⟨by rw [hR]; exact Nat.le_of_ble_eq_true rfl, by rw [hR]; exact Nat.le_of_ble_eq_true rfl⟩ ⟨by rw [hR]; dsimp only; omega, by rw [hR]; dsimp only; omega⟩ dX5_init_44 (fun v44 C9 L9 h9 => ?_)
      obtain ⟨rfl, hD9, hk9, hq9⟩ := h9
      rw [kup_s] at hq9
      have hk : ∀ t : kT, kNd i t → C9 t = C8 t ∧ L9 t = L8 t := fun t h => ⟨(hk9 t h).1.trans (kup_n (h.n (f := 5) (by decide) (by decide))), (hk9 t h).2.trans (kup_n (h.n (f := 5) (by decide) (by decide)))⟩
      have k1 := hk (1, 0, 0) (Or.inl (Or.inl (show (1 : Nat) ≤ 4 by decide)))
      have k4 := hk (4, 0, 0) (Or.inl (Or.inl (show (4 : Nat) ≤ 4 by decide)))
      refine k_aastN X (t := (4, 0, 0)) (u := (5, i, 0)) (j := 5) (k4.1.trans hJ.2.2.1) (nm := RX1) rfl k4.2 hD9.1 hq9 (ci := 2) (r := (RX1, TX1, 9)) rfl (Or.inl rfl) hi2 (by decide) dX5_init_47 ?_
      refine k_abs (fun C' => kJn E C' L9 (i + 1) ∧ kFr C L C' L9) ⟨kJn.up hJ hi2 hk hD9 hq9, ?_⟩ (fun C7 h7 => ?_)
      · exact fun t ht => ⟨(kup_n (kn30 ht (by decide))).trans ((hk t (Or.inl (Or.inr (by omega)))).1.trans (hfr8 t ht).1), (hk t (Or.inl (Or.inr (by omega)))).2.trans (hfr8 t ht).2⟩
      refine k_iinc (v := (nI (i + 1))) X dX5_init_48 rfl (by rw [show Int32.ofInt 1 = nI 1 from by decide, nI_add]) (by rw [hN]; decide) ?_
      refine k_goto (tgt := 30) X dX5_init_51 (by decide) ?_
      refine k_lo (lo' := [(0, .ref (L9 (1, 0, 0))), (1, .int (nI (i + 1)))]) ⟨kLR k1.2, rfl, trivial⟩ ?_
      exact k_wide (by first | omega | (dsimp only; omega)) (by first | omega | (dsimp only; omega)) (ih (i + 1) C7 L9 (by omega) h7.1 h7.2 (k1.2.trans hL8))
  refine k_aload_n X dX5_init_0 rfl rfl ?_
  refine k_objInit X kb_7 kb_8 kb_9 (by rw [hR]; dsimp only; omega) (by rw [hR]; exact Nat.le_of_ble_eq_true rfl) dX5_init_1 ?_
  refine k_aload_n X dX5_init_4 rfl rfl ?_
  refine k_new0 X (2, 0, 0) (ci := 0) (q := (RJx4a65c, TJx4a65c, 3)) rfl inlJx4a65c tyJx4a65c tyJx4a65c_ok kb_10 kb_11 kb_12 (fs := [.int 0, .null, .int (nI 0)]) (fun j hj => by rcases (show j = 0 ∨ j = 1 ∨ j = 2 from by have : j < 3 := hj; omega) with rfl | rfl | rfl <;> rfl) dX5_init_5 (by rw [hR]; dsimp only; omega) (by rw [hR]; dsimp only; omega) (fun q2 => ?_)
  refine k_dup X dX5_init_8 rfl ?_
  refine k_callI (rest := [.ref q2, .ref q0]) X ki_Jx4a65c_init_da8c8 kb_19 (c_AL_initA X.tr (th := (2, 0, 0)) kup_s kup_s) rfl rfl (Nat.le_of_ble_eq_true rfl) ⟨by rw [hR]; exact Nat.le_of_ble_eq_true rfl, by rw [hR]; exact Nat.le_of_ble_eq_true rfl⟩ ⟨by rw [hR]; dsimp only; omega, by rw [hR]; dsimp only; omega⟩ dX5_init_9 (fun v9 C9 L9 h9 => ?_)
  obtain ⟨rfl, rfl, rfl⟩ := h9
  refine k_C (kup_kup).symm ?_
  refine k_put1 X ((kup_n (kne1 (by decide))).trans h) (fs9 := [.ref q2, b1, .int a0]) (q := (RX5, TX5, 3)) rfl inlX5 tyX5 tyX5_ok nmX5 0 (by decide) kb_13 (Or.inl rfl) (Or.inr ⟨hnm, rfl⟩) ((kup_n (kne1 (by decide))).trans ha) rfl rfl (Nat.le_of_ble_eq_true rfl) rfl dX5_init_12 ?_
  refine k_aload_n X dX5_init_15 rfl rfl ?_
  refine k_iconst (v := (nI 4)) X dX5_init_16 (by decide) ?_
  refine k_newq X (4, 0, 0) 5 (nm := RX1) 4 rfl (by simp) kb_14 (by decide) (by decide) (by decide) dX5_init_17 (by rw [hR]; dsimp only; omega) (by rw [hR]; dsimp only; omega) (fun q4 => ?_)
  refine k_put1 X ((kup_n (kne1 (by decide))).trans kup_s) (fs9 := [.ref q2, .ref q4, .int a0]) (q := (RX5, TX5, 3)) rfl inlX5 tyX5 tyX5_ok nmX5 1 (by decide) kb_15 (Or.inl rfl) (Or.inr ⟨hnm, rfl⟩) ((kup_n (kne1 (by decide))).trans ((kup_n (kne1 (by decide))).trans ha)) rfl rfl (Nat.le_of_ble_eq_true rfl) rfl dX5_init_20 ?_
  refine k_aload_n X dX5_init_23 rfl rfl ?_
  refine k_iconst (v := (nI 0)) X dX5_init_24 (by decide) ?_
  refine k_putS X (fs9 := [.ref q2, .ref q4, .int (nI 0)]) (q := (RX5, TX5, 3)) rfl inlX5 tyX5 tyX5_ok nmX5 2 (by decide) kb_16 (Or.inl rfl) (Or.inl rfl) ((kup_n (kne1 (by decide))).trans ((kup_n (kne1 (by decide))).trans ha)) rfl rfl (Nat.le_of_ble_eq_true rfl) rfl dX5_init_25 ?_
  refine k_iconst (v := (nI 0)) X dX5_init_28 (by decide) ?_
  refine k_istore_n X dX5_init_29 rfl (by rw [hN]; decide) ?_
  refine k_abs2 (fun C' L' => kJn E C' L' 0 ∧ kFr C L C' L' ∧ L' (1, 0, 0) = L (1, 0, 0)) ⟨⟨⟨?_, ?_⟩, ?_, ?_, fun d hd => absurd hd (Nat.not_lt_zero d)⟩, ?_, ?_⟩ (fun C7 L7 h7 => ?_)
  · exact kst0 kup_s ((kup_n (kne1 (by decide))).trans kup_s) kup_s
  · simp only [kup_n (kne1 (by decide) : ((60, 0, 0) : kT) ≠ (1, 0, 0)), kup_n (kne1 (by decide) : ((60, 0, 0) : kT) ≠ (2, 0, 0)), kup_n (kne1 (by decide) : ((60, 0, 0) : kT) ≠ (4, 0, 0)), h60]
  · exact ((kup_n (kne1 (by decide))).trans ((kup_n (kne1 (by decide))).trans ((kup_n (kne1 (by decide))).trans kup_s)))
  · rw [kfst0]; exact ((kup_n (kne1 (by decide))).trans kup_s)
  · exact fun t ht => ⟨by simp only [kup_n (kn30 ht (by decide) : t ≠ (1, 0, 0)), kup_n (kn30 ht (by decide) : t ≠ (2, 0, 0)), kup_n (kn30 ht (by decide) : t ≠ (4, 0, 0))], by simp only [kup_n (kn30 ht (by decide) : t ≠ (2, 0, 0)), kup_n (kn30 ht (by decide) : t ≠ (4, 0, 0))]⟩
  · simp only [kup_n (kne1 (by decide) : ((1, 0, 0) : kT) ≠ (2, 0, 0)), kup_n (kne1 (by decide) : ((1, 0, 0) : kT) ≠ (4, 0, 0))]
  refine k_lo (lo' := [(0, .ref (L7 (1, 0, 0))), (1, .int (nI 0))]) ⟨by rw [h7.2.2, ha]; rfl, rfl, trivial⟩ ?_
  exact k_wide (by first | omega | (dsimp only; omega)) (by first | omega | (dsimp only; omega)) (loop 4 0 C7 L7 (by omega) h7.1 h7.2.1 h7.2.2)
end
