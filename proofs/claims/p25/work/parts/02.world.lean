/-! THE WORLD BY NAMES: what each thing holds (C), where it lies (L); one row an instruction over it -/
abbrev kT : Type := Nat × Nat × Nat
abbrev kC : Type := kT → Option va_E
abbrev kL : Type := kT → Nat
def kup {α : Type} (f : kT → α) (t : kT) (v : α) : kT → α := fun x => if x = t then v else f x
theorem kup_s {α : Type} {f : kT → α} {t : kT} {v : α} : kup f t v t = v := if_pos rfl
theorem kup_n {α : Type} {f : kT → α} {t x : kT} {v : α} (h : x ≠ t) : kup f t v x = f x := if_neg h
/-- the tables' numbers: classes and slots; array classes; the shared empty row of lists -/
abbrev kE : Type := va_G × (Nat → ClassId) × Nat × Nat
abbrev kty (κ : Nat → ClassId) : List (ClassId × FieldType) := [(κ 0, .int), (κ 1, .boolean), (κ 2, .int), (κ 3, .object "java/lang/Object"), (κ 4, .object RX2), (κ 5, .object RX1)]
def kp (E : kE) (A : Nat → Prop) (C : kC) (L : kL) (H : Heap) : Prop :=
  (∀ t e, C t = some e → va_at E.1 vwCl (L t, e) H ∧ A (L t)) ∧ ∀ t u e f, C t = some e → C u = some f → L t = L u → t = u
theorem kp.upd {E : kE} {A : Nat → Prop} {C : kC} {L : kL} {H H1 : Heap} {t : kT} {e0 e : va_E} (h : kp E A C L H) (ht : C t = some e0) (he : va_at E.1 vwCl (L t, e) H1) (oq : ∀ q : Nat, q ≠ L t → H1[q]? = H[q]?) : kp E A (kup C t (some e)) L H1 := by
  refine ⟨fun x f hx => ?_, fun x u f g hx hu hL => ?_⟩
  · by_cases hxt : x = t
    · subst hxt
      rw [kup_s] at hx
      cases hx
      exact ⟨he, (h.1 x e0 ht).2⟩
    · rw [kup_n hxt] at hx
      have hk := h.1 x f hx
      exact ⟨hk.1.kept (oq _ (fun z => hxt (h.2 x t f e0 hx ht z))), hk.2⟩
  · have key : ∀ (z : kT) (f : va_E), kup C t (some e) z = some f → ∃ f', C z = some f' := by
      intro z f hz
      by_cases hzt : z = t
      · subst hzt; exact ⟨e0, ht⟩
      · rw [kup_n hzt] at hz; exact ⟨f, hz⟩
    obtain ⟨f', hf'⟩ := key x f hx
    obtain ⟨g', hg'⟩ := key u g hu
    exact h.2 x u f' g' hf' hg' hL
theorem kp.new {E : kE} {A : Nat → Prop} {C : kC} {L : kL} {H H1 : Heap} {e : va_E} (t : kT) (h : kp E A C L H) (he : va_at E.1 vwCl (H.size, e) H1) (hA : A H.size) (oq : ∀ q : Nat, q < H.size → H1[q]? = H[q]?) : kp E A (kup C t (some e)) (kup L t H.size) H1 := by
  have key : ∀ (z : kT) (f : va_E), z ≠ t → kup C t (some e) z = some f → C z = some f ∧ L z < H.size := by
    intro z f hz hf
    rw [kup_n hz] at hf
    exact ⟨hf, (h.1 z f hf).1.lt⟩
  refine ⟨fun x f hx => ?_, fun x u f g hx hu hL => ?_⟩
  · by_cases hxt : x = t
    · subst hxt
      rw [kup_s] at hx
      cases hx
      rw [kup_s]
      exact ⟨he, hA⟩
    · obtain ⟨h1, h2⟩ := key x f hxt hx
      have hk := h.1 x f h1
      rw [kup_n hxt]
      exact ⟨hk.1.kept (oq _ h2), hk.2⟩
  · by_cases hxt : x = t
    · by_cases hut : u = t
      · rw [hxt, hut]
      · obtain ⟨h1, h2⟩ := key u g hut hu
        rw [hxt, kup_s, kup_n hut] at hL
        omega
    · obtain ⟨h1, h2⟩ := key x f hxt hx
      by_cases hut : u = t
      · rw [hut, kup_s, kup_n hxt] at hL
        omega
      · obtain ⟨h3, h4⟩ := key u g hut hu
        rw [kup_n hxt, kup_n hut] at hL
        exact h.2 x u f g h1 h3 hL
theorem kp.kept {E : kE} {A : Nat → Prop} {C : kC} {L : kL} {H H1 : Heap} (h : kp E A C L H) (oq : ∀ q : Nat, q < H.size → H1[q]? = H[q]?) : kp E A C L H1 :=
  ⟨fun t e ht => ⟨(h.1 t e ht).1.kept (oq _ (h.1 t e ht).1.lt), (h.1 t e ht).2⟩, h.2⟩
theorem kp.less {E : kE} {A : Nat → Prop} {C C' : kC} {L : kL} {H : Heap} (h : kp E A C L H) (hC : ∀ t e, C' t = some e → C t = some e) : kp E A C' L H :=
  ⟨fun t e ht => h.1 t e (hC t e ht), fun t u e f h1 h2 => h.2 t u e f (hC t e h1) (hC u f h2)⟩
theorem kp.P {E : kE} {A : Nat → Prop} {C : kC} {L : kL} {H : Heap} (h : kp E A C L H) {t : kT} {e : va_E} (ht : C t = some e) : va_P E.1 vwCl [(L t, e)] H := by
  intro k q hk
  cases k with
  | zero => cases hk; exact (h.1 t e ht).1
  | succ k => simp at hk
theorem kp.D {E : kE} {A : Nat → Prop} {C : kC} {L : kL} {H : Heap} (h : kp E A C L H) {t : kT} {e : va_E} (ht : C t = some e) : va_D A [(L t, e)] := by
  refine ⟨fun i j p q hi hj _ => ?_, fun k q hk => ?_⟩
  · cases i with
    | zero => cases j with
      | zero => rfl
      | succ j => simp at hj
    | succ i => simp at hi
  · cases k with
    | zero => cases hk; exact (h.1 t e ht).2
    | succ k => simp at hk
/-! what surrounds every call -/
def kTh (A : Nat → Prop) (U : State) : Prop := vx_Zq Bundle.tN "UNASSIGNED_STACK" Bundle.steD A U U.heap ∧ vx_Zq Bundle.tN "SUPPRESSED_SENTINEL" Bundle.listD A U U.heap
def kJd (dE mi : Nat) (A : Nat → Prop) (U : State) : Prop := va_Z "java/util/ArrayList" "DEFAULTCAPACITY_EMPTY_ELEMENTDATA" "[Ljava/lang/Object;" (.ref dE) A U U.heap ∧ va_T (.object "java/lang/Object") dE 0 (fun _ => .null) A U U.heap ∧ va_Mi "[Ljava/lang/Object;" mi U ∧ va_Dc U
def kStr : List (Nat × String) := [(37, "the central store is full"), (129, "the device made no such job"), (206, "no such job"), (209, "no such device"), (211, "no such place"), (213, "the device does not hold the job"), (215, "an argument is out of range")]
def kSt (U : State) : Prop := ∀ q ∈ kStr, ∃ sa : Nat, vk_R RX5 q.1 q.2 sa U
def kCas : List (String × String) := [(RX0, "java/lang/Object"), (RX1, "java/lang/Object"), (RX2, "java/lang/Object"), (RX3, "java/lang/Object"), (RX4, "java/lang/Object"), ("java/lang/IndexOutOfBoundsException", "java/lang/IndexOutOfBoundsException"), ("java/lang/IllegalArgumentException", "java/lang/IllegalArgumentException"), ("java/lang/IllegalStateException", "java/lang/IllegalStateException")]
def kNst : List (String × Nat × MethodName × String) := [(RX5, 26, yX1_init, RX5), (RX1, 68, yX2_init, RX5), (RX1, 77, yX4_init, RX5), (RX3, 9, yX2_init, RX5), (RX4, 17, yX2_init, RX5)]
def kNcs : List (String × String) := [("java/lang/IndexOutOfBoundsException", "java/lang/IllegalArgumentException"), ("java/lang/IndexOutOfBoundsException", "java/lang/IllegalStateException"), ("java/lang/IllegalArgumentException", "java/lang/IndexOutOfBoundsException"), ("java/lang/IllegalArgumentException", "java/lang/IllegalStateException"), ("java/lang/IllegalStateException", "java/lang/IndexOutOfBoundsException"), ("java/lang/IllegalStateException", "java/lang/IllegalArgumentException")]
def kDcl : List String := ["java/lang/RuntimeException", "java/lang/Exception", "java/lang/Throwable"]
def kNw (U : State) : Prop := (va_AO "java/lang/Object" U ∧ va_AO RX2 U ∧ va_AO RX1 U) ∧ (∀ q ∈ kCas, va_Nw (.castable q.1 q.2) U) ∧ (∀ q ∈ kNst, va_Nw (.methodLinkNest q.1 q.2.1 q.2.2.1 q.2.2.2) U) ∧ (∀ q ∈ kNcs, va_Nc q.1 q.2 U) ∧ (∀ q ∈ kDcl, va_Nw (.declares (Bundle.initS q)) U)
def kAm (E : kE) (A : Nat → Prop) (U : State) : Prop := va_K E.1 vwCl (kty E.2.1) U ∧ (∀ q : Nat, U.heap.size ≤ q → A q) ∧ kTh A U ∧ kJd E.2.2.1 E.2.2.2 A U ∧ kSt U ∧ kNw U
theorem kTh.to {A : Nat → Prop} {u U : State} (hvm : u.vm.Alike U.vm) (hq : ∀ a : Nat, a < u.heap.size → ¬ A a → U.heap[a]? = u.heap[a]?) (h : kTh A u) : kTh A U := ⟨(vx_Zq.moved hvm h.1).kept hq, (vx_Zq.moved hvm h.2).kept hq⟩
theorem kJd.to {dE mi : Nat} {A : Nat → Prop} {u U : State} (hvm : u.vm.Alike U.vm) (hq : ∀ a : Nat, a < u.heap.size → ¬ A a → U.heap[a]? = u.heap[a]?) (h : kJd dE mi A u) : kJd dE mi A U := by
  obtain ⟨h1, h2, h3, h4⟩ := h
  exact ⟨(va_Z.moved hvm h1).kept hq, (va_T.moved hvm h2).kept hq, h3.moved hvm, h4.moved hvm⟩
theorem kAm.warm {E : kE} {A : Nat → Prop} {s U : State} (hW : s.WarmedH U.vm) (hz : s.heap.size ≤ U.heap.size) (hq : ∀ a : Nat, a < s.heap.size → ¬ A a → U.heap[a]? = s.heap[a]?) (h : kAm E A s) : kAm E A U := by
  obtain ⟨h1, h2, h3, h4, h5, ⟨a1, a2, a3⟩, b, d, f, g⟩ := h
  refine ⟨va_K.moved hW.alike h1, fun q hq' => h2 q (Nat.le_trans hz hq'), h3.to hW.alike hq, h4.to hW.alike hq, fun q hq' => ?_, ⟨a1.moved hW.alike, a2.moved hW.alike, a3.moved hW.alike⟩, fun q hq' => va_Nw.warmC hW (b q hq'), fun q hq' => va_Nw.warmM hW (d q hq'), fun q hq' => (f q hq').moved hW.alike, fun q hq' => va_Nw.warmD hW (g q hq')⟩
  obtain ⟨sa, hsa⟩ := h5 q hq'
  exact ⟨sa, hsa.warm hW⟩
theorem kAm.same {E : kE} {A : Nat → Prop} {u U : State} (hv : u.vm = U.vm) (hh : u.heap = U.heap) (h : kAm E A u) : kAm E A U := by
  obtain ⟨h1, h2, h3, h4, h5, ⟨a1, a2, a3⟩, b, d, f, g⟩ := h
  have hal : u.vm.Alike U.vm := by rw [hv]; exact Vm.Alike.refl _
  have hq : ∀ a : Nat, a < u.heap.size → ¬ A a → U.heap[a]? = u.heap[a]? := fun a _ _ => by rw [hh]
  refine ⟨va_K.moved hal h1, fun q hq' => h2 q (by rw [hh]; exact hq'), h3.to hal hq, h4.to hal hq, fun q hq' => ?_, ⟨a1.moved hal, a2.moved hal, a3.moved hal⟩, fun q hq' => va_Nw.same rfl hv (b q hq'), fun q hq' => va_Nw.same rfl hv (d q hq'), fun q hq' => (f q hq').moved hal, fun q hq' => va_Nw.same rfl hv (g q hq')⟩
  obtain ⟨sa, hsa⟩ := h5 q hq'
  exact ⟨sa, hsa.same hv.symm⟩
/-! a place in a method -/
abbrev kG : Type := Program × Launch × Env × Room × State × MethodId × Array Value × List Frame × Method × Code × (State → Prop) × Nat
def kRm (Γ : kG) : Room := Γ.2.2.2.1
def kNl (Γ : kG) : Nat := Γ.2.2.2.2.2.2.2.2.2.2.2
def kMe (Γ : kG) : Method := Γ.2.2.2.2.2.2.2.2.1
def klk : List (Nat × Value) → Nat → Option Value
  | [], _ => none
  | (j, v) :: r, i => if j = i then some v else klk r i
theorem klk_mem : ∀ {lo : List (Nat × Value)} {i : Nat} {v : Value}, klk lo i = some v → (i, v) ∈ lo
  | [], _, _, h => by cases h
  | (j, w) :: r, i, v, h => by
    unfold klk at h
    by_cases e : j = i
    · rw [if_pos e] at h
      cases h
      rw [e]
      exact List.mem_cons_self
    · rw [if_neg e] at h
      exact List.mem_cons_of_mem _ (klk_mem h)
def kall : List (Nat × Value) → List (Nat × Value) → Prop
  | [], _ => True
  | (j, v) :: r, lo => klk lo j = some v ∧ kall r lo
theorem kall_mem : ∀ {l lo : List (Nat × Value)}, kall l lo → ∀ q ∈ l, q ∈ lo
  | [], _, _, _, h => by cases h
  | (j, v) :: r, lo, h, q, hq => by
    rcases List.mem_cons.mp hq with e | e
    · rw [e]; exact klk_mem h.1
    · exact kall_mem h.2 q e
/-- the locals with one set -/
def kst (lo : List (Nat × Value)) (i : Nat) (v : Value) : List (Nat × Value) := (i, v) :: lo.filter (fun q => !(q.1 == i) && !(q.1 + 1 == i && q.2.category == 2))
def kW (Γ : kG) (E : kE) (A : Nat → Prop) (C : kC) (L : kL) (cells slots : Nat) (pc : Nat) (lo : List (Nat × Value)) (st : List Value) : Prop :=
  match Γ with
  | (p, l, e, R, s, m, args, below, meth, c, Q, nL) => ∀ (H : Heap) (locs : List Loc) (ls : Array Slot), kp E A C L H → va_S A s.heap H locs → lv_has ls nL lo → W p l e R s m args below meth c H locs cells slots Q (F0 m pc ls st)
/-- what is known of a method that runs: the machine, its code, the words of the tables, what surrounds it -/
def kX (Γ : kG) (E : kE) (A : Nat → Prop) (cc : ByteArray) (own : String) : Prop :=
  match Γ with
  | (p, l, e, R, s, m, args, below, meth, c, Q, nL) => p.tables.exec = Jvm.exec ∧ c.code = cc ∧ c.maxLocals = nL ∧ s.vm.findClass own = some m.cls ∧ (∀ w ∈ wsL_law, w.before args s = true) ∧ kAm E A s ∧ meth.locks = false ∧ l.stackTraces = false

section KR
variable {Γ : kG} {E : kE} {A : Nat → Prop} {cc : ByteArray} {own : String} {C : kC} {L : kL} {cells slots pc : Nat} {lo : List (Nat × Value)} {rest : List Value}

theorem k_iconst (X : kX Γ E A cc own) {n : Int} {v : Int32} (hdg : decode cc pc = .ok (.iconst n, 1)) (hv : Int32.ofInt n = v) (k : kW Γ E A C L cells slots (pc + 1) lo (.int v :: rest)) : kW Γ E A C L cells slots pc lo rest := by
  obtain ⟨p, l, e, R, s, m, args, below, meth, c, Q, nL⟩ := Γ
  obtain ⟨hx, hb, hml, hown, hts, hAm, hlk, htr⟩ := X
  exact fun H locs ls hp hS hl => lv_iconst hx hb hdg hv (k H locs ls hp hS hl)
theorem k_bipush (X : kX Γ E A cc own) {n : Int} {v : Int32} (hdg : decode cc pc = .ok (.bipush n, 2)) (hv : (Int8.ofInt n).toInt32 = v) (k : kW Γ E A C L cells slots (pc + 2) lo (.int v :: rest)) : kW Γ E A C L cells slots pc lo rest := by
  obtain ⟨p, l, e, R, s, m, args, below, meth, c, Q, nL⟩ := Γ
  obtain ⟨hx, hb, hml, hown, hts, hAm, hlk, htr⟩ := X
  exact fun H locs ls hp hS hl => lv_bipush hx hb hdg hv (k H locs ls hp hS hl)
theorem k_sipush (X : kX Γ E A cc own) {n : Int} {v : Int32} (hdg : decode cc pc = .ok (.sipush n, 3)) (hv : (Int16.ofInt n).toInt32 = v) (k : kW Γ E A C L cells slots (pc + 3) lo (.int v :: rest)) : kW Γ E A C L cells slots pc lo rest := by
  obtain ⟨p, l, e, R, s, m, args, below, meth, c, Q, nL⟩ := Γ
  obtain ⟨hx, hb, hml, hown, hts, hAm, hlk, htr⟩ := X
  exact fun H locs ls hp hS hl => lv_sipush hx hb hdg hv (k H locs ls hp hS hl)
theorem k_lconst (X : kX Γ E A cc own) {n : Fin 2} {v : Int64} (hdg : decode cc pc = .ok (.lconst n, 1)) (hv : Int64.ofNat (n : Nat) = v) (k : kW Γ E A C L cells slots (pc + 1) lo (.long v :: rest)) : kW Γ E A C L cells slots pc lo rest := by
  obtain ⟨p, l, e, R, s, m, args, below, meth, c, Q, nL⟩ := Γ
  obtain ⟨hx, hb, hml, hown, hts, hAm, hlk, htr⟩ := X
  exact fun H locs ls hp hS hl => lv_lconst hx hb hdg hv (k H locs ls hp hS hl)
theorem k_iadd (X : kX Γ E A cc own) {x y : Int32} (hdg : decode cc pc = .ok (.iadd, 1)) (k : kW Γ E A C L cells slots (pc + 1) lo (.int (x + y) :: rest)) : kW Γ E A C L cells slots pc lo (.int y :: .int x :: rest) := by
  obtain ⟨p, l, e, R, s, m, args, below, meth, c, Q, nL⟩ := Γ
  obtain ⟨hx, hb, hml, hown, hts, hAm, hlk, htr⟩ := X
  exact fun H locs ls hp hS hl => lv_iadd hx hb hdg (k H locs ls hp hS hl)
theorem k_isub (X : kX Γ E A cc own) {x y : Int32} (hdg : decode cc pc = .ok (.isub, 1)) (k : kW Γ E A C L cells slots (pc + 1) lo (.int (x - y) :: rest)) : kW Γ E A C L cells slots pc lo (.int y :: .int x :: rest) := by
  obtain ⟨p, l, e, R, s, m, args, below, meth, c, Q, nL⟩ := Γ
  obtain ⟨hx, hb, hml, hown, hts, hAm, hlk, htr⟩ := X
  exact fun H locs ls hp hS hl => lv_isub hx hb hdg (k H locs ls hp hS hl)
theorem k_imul (X : kX Γ E A cc own) {x y : Int32} (hdg : decode cc pc = .ok (.imul, 1)) (k : kW Γ E A C L cells slots (pc + 1) lo (.int (x * y) :: rest)) : kW Γ E A C L cells slots pc lo (.int y :: .int x :: rest) := by
  obtain ⟨p, l, e, R, s, m, args, below, meth, c, Q, nL⟩ := Γ
  obtain ⟨hx, hb, hml, hown, hts, hAm, hlk, htr⟩ := X
  exact fun H locs ls hp hS hl => lv_imul hx hb hdg (k H locs ls hp hS hl)
theorem k_iand (X : kX Γ E A cc own) {x y : Int32} (hdg : decode cc pc = .ok (.iand, 1)) (k : kW Γ E A C L cells slots (pc + 1) lo (.int (x &&& y) :: rest)) : kW Γ E A C L cells slots pc lo (.int y :: .int x :: rest) := by
  obtain ⟨p, l, e, R, s, m, args, below, meth, c, Q, nL⟩ := Γ
  obtain ⟨hx, hb, hml, hown, hts, hAm, hlk, htr⟩ := X
  exact fun H locs ls hp hS hl => lv_iand hx hb hdg (k H locs ls hp hS hl)
theorem k_ishr (X : kX Γ E A cc own) {x y : Int32} (hdg : decode cc pc = .ok (.ishr, 1)) (k : kW Γ E A C L cells slots (pc + 1) lo (.int (x >>> (y &&& 31)) :: rest)) : kW Γ E A C L cells slots pc lo (.int y :: .int x :: rest) := by
  obtain ⟨p, l, e, R, s, m, args, below, meth, c, Q, nL⟩ := Γ
  obtain ⟨hx, hb, hml, hown, hts, hAm, hlk, htr⟩ := X
  exact fun H locs ls hp hS hl => lv_ishr hx hb hdg (k H locs ls hp hS hl)
theorem k_i2l (X : kX Γ E A cc own) {x : Int32} (hdg : decode cc pc = .ok (.i2l, 1)) (k : kW Γ E A C L cells slots (pc + 1) lo (.long x.toInt64 :: rest)) : kW Γ E A C L cells slots pc lo (.int x :: rest) := by
  obtain ⟨p, l, e, R, s, m, args, below, meth, c, Q, nL⟩ := Γ
  obtain ⟨hx, hb, hml, hown, hts, hAm, hlk, htr⟩ := X
  exact fun H locs ls hp hS hl => lv_i2l hx hb hdg rfl (k H locs ls hp hS hl)
theorem k_lcmp (X : kX Γ E A cc own) {x y : Int64} (hdg : decode cc pc = .ok (.lcmp, 1)) (k : kW Γ E A C L cells slots (pc + 1) lo (.int (lg_cmp x y) :: rest)) : kW Γ E A C L cells slots pc lo (.long y :: .long x :: rest) := by
  obtain ⟨p, l, e, R, s, m, args, below, meth, c, Q, nL⟩ := Γ
  obtain ⟨hx, hb, hml, hown, hts, hAm, hlk, htr⟩ := X
  exact fun H locs ls hp hS hl => W.lcmp hx hb hdg (k H locs ls hp hS hl)
theorem k_dup (X : kX Γ E A cc own) {va : Value} (hdg : decode cc pc = .ok (.dup, 1)) (hva : va.category = 1) (k : kW Γ E A C L cells slots (pc + 1) lo (va :: va :: rest)) : kW Γ E A C L cells slots pc lo (va :: rest) := by
  obtain ⟨p, l, e, R, s, m, args, below, meth, c, Q, nL⟩ := Γ
  obtain ⟨hx, hb, hml, hown, hts, hAm, hlk, htr⟩ := X
  exact fun H locs ls hp hS hl => lv_dup hx hb hdg hva (k H locs ls hp hS hl)
theorem k_dup_x1 (X : kX Γ E A cc own) {va vb : Value} (hdg : decode cc pc = .ok (.dup_x1, 1)) (hva : va.category = 1) (hvb : vb.category = 1) (k : kW Γ E A C L cells slots (pc + 1) lo (va :: vb :: va :: rest)) : kW Γ E A C L cells slots pc lo (va :: vb :: rest) := by
  obtain ⟨p, l, e, R, s, m, args, below, meth, c, Q, nL⟩ := Γ
  obtain ⟨hx, hb, hml, hown, hts, hAm, hlk, htr⟩ := X
  exact fun H locs ls hp hS hl => lv_dup_x1 hx hb hdg hva hvb (k H locs ls hp hS hl)
theorem k_dup2 (X : kX Γ E A cc own) {va vb : Value} (hdg : decode cc pc = .ok (.dup2, 1)) (hva : va.category = 1) (hvb : vb.category = 1) (k : kW Γ E A C L cells slots (pc + 1) lo (va :: vb :: va :: vb :: rest)) : kW Γ E A C L cells slots pc lo (va :: vb :: rest) := by
  obtain ⟨p, l, e, R, s, m, args, below, meth, c, Q, nL⟩ := Γ
  obtain ⟨hx, hb, hml, hown, hts, hAm, hlk, htr⟩ := X
  exact fun H locs ls hp hS hl => lv_dup2_11 hx hb hdg hva hvb (k H locs ls hp hS hl)
theorem k_pop (X : kX Γ E A cc own) {va : Value} (hdg : decode cc pc = .ok (.pop, 1)) (hva : va.category = 1) (k : kW Γ E A C L cells slots (pc + 1) lo rest) : kW Γ E A C L cells slots pc lo (va :: rest) := by
  obtain ⟨p, l, e, R, s, m, args, below, meth, c, Q, nL⟩ := Γ
  obtain ⟨hx, hb, hml, hown, hts, hAm, hlk, htr⟩ := X
  exact fun H locs ls hp hS hl => lv_pop hx hb hdg hva (k H locs ls hp hS hl)
theorem k_null (X : kX Γ E A cc own) (hdg : decode cc pc = .ok (.aconst_null, 1)) (k : kW Γ E A C L cells slots (pc + 1) lo (.null :: rest)) : kW Γ E A C L cells slots pc lo rest := by
  obtain ⟨p, l, e, R, s, m, args, below, meth, c, Q, nL⟩ := Γ
  obtain ⟨hx, hb, hml, hown, hts, hAm, hlk, htr⟩ := X
  exact fun H locs ls hp hS hl => lv_null hx hb hdg (k H locs ls hp hS hl)
theorem k_iload_n (X : kX Γ E A cc own) {k : Fin 4} {i : Nat} {x : Int32} (hdg : decode cc pc = .ok (.iload_n k, 1)) (hi : (k : Nat) = i) (hk : klk lo i = some (.int x)) (k9 : kW Γ E A C L cells slots (pc + 1) lo (.int x :: rest)) : kW Γ E A C L cells slots pc lo rest := by
  obtain ⟨p, l, e, R, s, m, args, below, meth, c, Q, nL⟩ := Γ
  obtain ⟨hx, hb, hml, hown, hts, hAm, hlk, htr⟩ := X
  exact fun H locs ls hp hS hl => lv_iload_n hx hb hdg hi (hl.2.2 _ (klk_mem hk)) (k9 H locs ls hp hS hl)
theorem k_iload (X : kX Γ E A cc own) {i : Nat} {x : Int32} (hdg : decode cc pc = .ok (.iload i, 2)) (hk : klk lo i = some (.int x)) (k9 : kW Γ E A C L cells slots (pc + 2) lo (.int x :: rest)) : kW Γ E A C L cells slots pc lo rest := by
  obtain ⟨p, l, e, R, s, m, args, below, meth, c, Q, nL⟩ := Γ
  obtain ⟨hx, hb, hml, hown, hts, hAm, hlk, htr⟩ := X
  exact fun H locs ls hp hS hl => lv_iload hx hb hdg (hl.2.2 _ (klk_mem hk)) (k9 H locs ls hp hS hl)
theorem k_aload_n (X : kX Γ E A cc own) {k : Fin 4} {i : Nat} {x : Nat} (hdg : decode cc pc = .ok (.aload_n k, 1)) (hi : (k : Nat) = i) (hk : klk lo i = some (.ref x)) (k9 : kW Γ E A C L cells slots (pc + 1) lo (.ref x :: rest)) : kW Γ E A C L cells slots pc lo rest := by
  obtain ⟨p, l, e, R, s, m, args, below, meth, c, Q, nL⟩ := Γ
  obtain ⟨hx, hb, hml, hown, hts, hAm, hlk, htr⟩ := X
  exact fun H locs ls hp hS hl => lv_aload_n hx hb hdg hi (hl.2.2 _ (klk_mem hk)) (k9 H locs ls hp hS hl)
theorem k_aload (X : kX Γ E A cc own) {i : Nat} {x : Nat} (hdg : decode cc pc = .ok (.aload i, 2)) (hk : klk lo i = some (.ref x)) (k9 : kW Γ E A C L cells slots (pc + 2) lo (.ref x :: rest)) : kW Γ E A C L cells slots pc lo rest := by
  obtain ⟨p, l, e, R, s, m, args, below, meth, c, Q, nL⟩ := Γ
  obtain ⟨hx, hb, hml, hown, hts, hAm, hlk, htr⟩ := X
  exact fun H locs ls hp hS hl => lv_aload hx hb hdg (hl.2.2 _ (klk_mem hk)) (k9 H locs ls hp hS hl)
theorem k_aload_nN (X : kX Γ E A cc own) {k : Fin 4} {i : Nat} (hdg : decode cc pc = .ok (.aload_n k, 1)) (hi : (k : Nat) = i) (hk : klk lo i = some (.null)) (k9 : kW Γ E A C L cells slots (pc + 1) lo (.null :: rest)) : kW Γ E A C L cells slots pc lo rest := by
  obtain ⟨p, l, e, R, s, m, args, below, meth, c, Q, nL⟩ := Γ
  obtain ⟨hx, hb, hml, hown, hts, hAm, hlk, htr⟩ := X
  exact fun H locs ls hp hS hl => lv_aload_nN hx hb hdg hi (hl.2.2 _ (klk_mem hk)) (k9 H locs ls hp hS hl)
theorem k_aloadN (X : kX Γ E A cc own) {i : Nat} (hdg : decode cc pc = .ok (.aload i, 2)) (hk : klk lo i = some (.null)) (k9 : kW Γ E A C L cells slots (pc + 2) lo (.null :: rest)) : kW Γ E A C L cells slots pc lo rest := by
  obtain ⟨p, l, e, R, s, m, args, below, meth, c, Q, nL⟩ := Γ
  obtain ⟨hx, hb, hml, hown, hts, hAm, hlk, htr⟩ := X
  exact fun H locs ls hp hS hl => lv_aloadN hx hb hdg (hl.2.2 _ (klk_mem hk)) (k9 H locs ls hp hS hl)
theorem k_istore_n (X : kX Γ E A cc own) {k : Fin 4} {i : Nat} {x : Int32} (hdg : decode cc pc = .ok (.istore_n k, 1)) (hi : (k : Nat) = i) (hn : i < kNl Γ) (k9 : kW Γ E A C L cells slots (pc + 1) (kst lo i (.int x)) rest) : kW Γ E A C L cells slots pc lo (.int x :: rest) := by
  obtain ⟨p, l, e, R, s, m, args, below, meth, c, Q, nL⟩ := Γ
  obtain ⟨hx, hb, hml, hown, hts, hAm, hlk, htr⟩ := X
  exact fun H locs ls hp hS hl => lv_istore_n hx hb hdg hi hl hn rfl (fun ls hl => k9 H locs ls hp hS hl)
theorem k_istore (X : kX Γ E A cc own) {i : Nat} {x : Int32} (hdg : decode cc pc = .ok (.istore i, 2)) (hn : i < kNl Γ) (k9 : kW Γ E A C L cells slots (pc + 2) (kst lo i (.int x)) rest) : kW Γ E A C L cells slots pc lo (.int x :: rest) := by
  obtain ⟨p, l, e, R, s, m, args, below, meth, c, Q, nL⟩ := Γ
  obtain ⟨hx, hb, hml, hown, hts, hAm, hlk, htr⟩ := X
  exact fun H locs ls hp hS hl => lv_istore hx hb hdg hl hn rfl (fun ls hl => k9 H locs ls hp hS hl)
theorem k_astore_n (X : kX Γ E A cc own) {k : Fin 4} {i : Nat} {x : Nat} (hdg : decode cc pc = .ok (.astore_n k, 1)) (hi : (k : Nat) = i) (hn : i < kNl Γ) (k9 : kW Γ E A C L cells slots (pc + 1) (kst lo i (.ref x)) rest) : kW Γ E A C L cells slots pc lo (.ref x :: rest) := by
  obtain ⟨p, l, e, R, s, m, args, below, meth, c, Q, nL⟩ := Γ
  obtain ⟨hx, hb, hml, hown, hts, hAm, hlk, htr⟩ := X
  exact fun H locs ls hp hS hl => lv_astore_n hx hb hdg hi hl hn rfl (fun ls hl => k9 H locs ls hp hS hl)
theorem k_astore (X : kX Γ E A cc own) {i : Nat} {x : Nat} (hdg : decode cc pc = .ok (.astore i, 2)) (hn : i < kNl Γ) (k9 : kW Γ E A C L cells slots (pc + 2) (kst lo i (.ref x)) rest) : kW Γ E A C L cells slots pc lo (.ref x :: rest) := by
  obtain ⟨p, l, e, R, s, m, args, below, meth, c, Q, nL⟩ := Γ
  obtain ⟨hx, hb, hml, hown, hts, hAm, hlk, htr⟩ := X
  exact fun H locs ls hp hS hl => lv_astore hx hb hdg hl hn rfl (fun ls hl => k9 H locs ls hp hS hl)
theorem k_astore_nN (X : kX Γ E A cc own) {k : Fin 4} {i : Nat} (hdg : decode cc pc = .ok (.astore_n k, 1)) (hi : (k : Nat) = i) (hn : i < kNl Γ) (k9 : kW Γ E A C L cells slots (pc + 1) (kst lo i (.null)) rest) : kW Γ E A C L cells slots pc lo (.null :: rest) := by
  obtain ⟨p, l, e, R, s, m, args, below, meth, c, Q, nL⟩ := Γ
  obtain ⟨hx, hb, hml, hown, hts, hAm, hlk, htr⟩ := X
  exact fun H locs ls hp hS hl => lv_astore_nN hx hb hdg hi hl hn rfl (fun ls hl => k9 H locs ls hp hS hl)
theorem k_astoreN (X : kX Γ E A cc own) {i : Nat} (hdg : decode cc pc = .ok (.astore i, 2)) (hn : i < kNl Γ) (k9 : kW Γ E A C L cells slots (pc + 2) (kst lo i (.null)) rest) : kW Γ E A C L cells slots pc lo (.null :: rest) := by
  obtain ⟨p, l, e, R, s, m, args, below, meth, c, Q, nL⟩ := Γ
  obtain ⟨hx, hb, hml, hown, hts, hAm, hlk, htr⟩ := X
  exact fun H locs ls hp hS hl => lv_astoreN hx hb hdg hl hn rfl (fun ls hl => k9 H locs ls hp hS hl)
theorem k_iinc (X : kX Γ E A cc own) {i : Nat} {n : Int} {x v : Int32} (hdg : decode cc pc = .ok (.iinc i n, 3)) (hk : klk lo i = some (.int x)) (hv : x + Int32.ofInt n = v) (hn : i < kNl Γ) (k9 : kW Γ E A C L cells slots (pc + 3) (kst lo i (.int v)) rest) : kW Γ E A C L cells slots pc lo rest := by
  obtain ⟨p, l, e, R, s, m, args, below, meth, c, Q, nL⟩ := Γ
  obtain ⟨hx, hb, hml, hown, hts, hAm, hlk, htr⟩ := X
  intro H locs ls hp hS hl
  obtain ⟨k, hk⟩ := List.getElem?_of_mem (klk_mem hk)
  exact lv_iinc hx hb hdg hl hk hv hn rfl (fun ls hl => k9 H locs ls hp hS hl)
/-- other words for the locals -/
theorem k_lo {lo' : List (Nat × Value)} (h : kall lo' lo) (k9 : kW Γ E A C L cells slots pc lo' rest) : kW Γ E A C L cells slots pc lo rest := by
  obtain ⟨p, l, e, R, s, m, args, below, meth, c, Q, nL⟩ := Γ
  exact fun H locs ls hp hS hl => k9 H locs ls hp hS ⟨hl.1, hl.2.1, fun q hq => hl.2.2 q (kall_mem h q hq)⟩
theorem k_wide {k n : Nat} (h1 : cells ≤ k) (h2 : slots ≤ n) (k9 : kW Γ E A C L k n pc lo rest) : kW Γ E A C L cells slots pc lo rest := by
  obtain ⟨p, l, e, R, s, m, args, below, meth, c, Q, nL⟩ := Γ
  exact fun H locs ls hp hS hl => W.widen h1 h2 (k9 H locs ls hp hS hl)
theorem k_C {C' : kC} (h : C' = C) (k9 : kW Γ E A C' L cells slots pc lo rest) : kW Γ E A C L cells slots pc lo rest := h ▸ k9
theorem k_less {C' : kC} (h : ∀ t e, C' t = some e → C t = some e) (k9 : kW Γ E A C' L cells slots pc lo rest) : kW Γ E A C L cells slots pc lo rest := by
  obtain ⟨p, l, e, R, s, m, args, below, meth, c, Q, nL⟩ := Γ
  exact fun H locs ls hp hS hl => k9 H locs ls (hp.less h) hS hl
theorem k_topi {x : Int32} (k9 : ∀ y : Int32, y = x → kW Γ E A C L cells slots pc lo (.int y :: rest)) : kW Γ E A C L cells slots pc lo (.int x :: rest) := k9 x rfl
theorem k_goto (X : kX Γ E A cc own) {off : Int} {tgt : Nat} (hdg : decode cc pc = .ok (.goto off, 3)) (ht : (pc : Int) + off = (tgt : Int)) (k9 : kW Γ E A C L cells slots tgt lo rest) : kW Γ E A C L cells slots pc lo rest := by
  obtain ⟨p, l, e, R, s, m, args, below, meth, c, Q, nL⟩ := Γ
  obtain ⟨hx, hb, hml, hown, hts, hAm, hlk, htr⟩ := X
  exact fun H locs ls hp hS hl => lv_goto hx hb hdg ht (k9 H locs ls hp hS hl)
theorem k_if_eq (X : kX Γ E A cc own) {x : Int32} {off : Int} {tgt : Nat} (hdg : decode cc pc = .ok (.ifCond .eq off, 3)) (ht : (pc : Int) + off = (tgt : Int)) (kt : x = 0 → kW Γ E A C L cells slots tgt lo rest) (kf : ¬ x = 0 → kW Γ E A C L cells slots (pc + 3) lo rest) : kW Γ E A C L cells slots pc lo (.int x :: rest) := by
  obtain ⟨p, l, e, R, s, m, args, below, meth, c, Q, nL⟩ := Γ
  obtain ⟨hx, hb, hml, hown, hts, hAm, hlk, htr⟩ := X
  exact fun H locs ls hp hS hl => lv_if_eq hx hb hdg ht (fun z => kt z H locs ls hp hS hl) (fun z => kf z H locs ls hp hS hl)
theorem k_if_ne (X : kX Γ E A cc own) {x : Int32} {off : Int} {tgt : Nat} (hdg : decode cc pc = .ok (.ifCond .ne off, 3)) (ht : (pc : Int) + off = (tgt : Int)) (kt : ¬ x = 0 → kW Γ E A C L cells slots tgt lo rest) (kf : x = 0 → kW Γ E A C L cells slots (pc + 3) lo rest) : kW Γ E A C L cells slots pc lo (.int x :: rest) := by
  obtain ⟨p, l, e, R, s, m, args, below, meth, c, Q, nL⟩ := Γ
  obtain ⟨hx, hb, hml, hown, hts, hAm, hlk, htr⟩ := X
  exact fun H locs ls hp hS hl => lv_if_ne hx hb hdg ht (fun z => kt z H locs ls hp hS hl) (fun z => kf z H locs ls hp hS hl)
theorem k_if_lt (X : kX Γ E A cc own) {x : Int32} {off : Int} {tgt : Nat} (hdg : decode cc pc = .ok (.ifCond .lt off, 3)) (ht : (pc : Int) + off = (tgt : Int)) (kt : x < 0 → kW Γ E A C L cells slots tgt lo rest) (kf : ¬ x < 0 → kW Γ E A C L cells slots (pc + 3) lo rest) : kW Γ E A C L cells slots pc lo (.int x :: rest) := by
  obtain ⟨p, l, e, R, s, m, args, below, meth, c, Q, nL⟩ := Γ
  obtain ⟨hx, hb, hml, hown, hts, hAm, hlk, htr⟩ := X
  exact fun H locs ls hp hS hl => lv_if_lt hx hb hdg ht (fun z => kt z H locs ls hp hS hl) (fun z => kf z H locs ls hp hS hl)
theorem k_if_ge (X : kX Γ E A cc own) {x : Int32} {off : Int} {tgt : Nat} (hdg : decode cc pc = .ok (.ifCond .ge off, 3)) (ht : (pc : Int) + off = (tgt : Int)) (kt : 0 ≤ x → kW Γ E A C L cells slots tgt lo rest) (kf : ¬ 0 ≤ x → kW Γ E A C L cells slots (pc + 3) lo rest) : kW Γ E A C L cells slots pc lo (.int x :: rest) := by
  obtain ⟨p, l, e, R, s, m, args, below, meth, c, Q, nL⟩ := Γ
  obtain ⟨hx, hb, hml, hown, hts, hAm, hlk, htr⟩ := X
  exact fun H locs ls hp hS hl => lv_if_ge hx hb hdg ht (fun z => kt z H locs ls hp hS hl) (fun z => kf z H locs ls hp hS hl)
theorem k_if_gt (X : kX Γ E A cc own) {x : Int32} {off : Int} {tgt : Nat} (hdg : decode cc pc = .ok (.ifCond .gt off, 3)) (ht : (pc : Int) + off = (tgt : Int)) (kt : 0 < x → kW Γ E A C L cells slots tgt lo rest) (kf : ¬ 0 < x → kW Γ E A C L cells slots (pc + 3) lo rest) : kW Γ E A C L cells slots pc lo (.int x :: rest) := by
  obtain ⟨p, l, e, R, s, m, args, below, meth, c, Q, nL⟩ := Γ
  obtain ⟨hx, hb, hml, hown, hts, hAm, hlk, htr⟩ := X
  exact fun H locs ls hp hS hl => lv_if_gt hx hb hdg ht (fun z => kt z H locs ls hp hS hl) (fun z => kf z H locs ls hp hS hl)
theorem k_if_le (X : kX Γ E A cc own) {x : Int32} {off : Int} {tgt : Nat} (hdg : decode cc pc = .ok (.ifCond .le off, 3)) (ht : (pc : Int) + off = (tgt : Int)) (kt : x ≤ 0 → kW Γ E A C L cells slots tgt lo rest) (kf : ¬ x ≤ 0 → kW Γ E A C L cells slots (pc + 3) lo rest) : kW Γ E A C L cells slots pc lo (.int x :: rest) := by
  obtain ⟨p, l, e, R, s, m, args, below, meth, c, Q, nL⟩ := Γ
  obtain ⟨hx, hb, hml, hown, hts, hAm, hlk, htr⟩ := X
  exact fun H locs ls hp hS hl => lv_if_le hx hb hdg ht (fun z => kt z H locs ls hp hS hl) (fun z => kf z H locs ls hp hS hl)
theorem k_icmp_eq (X : kX Γ E A cc own) {x y : Int32} {off : Int} {tgt : Nat} (hdg : decode cc pc = .ok (.if_icmp .eq off, 3)) (ht : (pc : Int) + off = (tgt : Int)) (kt : x = y → kW Γ E A C L cells slots tgt lo rest) (kf : ¬ x = y → kW Γ E A C L cells slots (pc + 3) lo rest) : kW Γ E A C L cells slots pc lo (.int y :: .int x :: rest) := by
  obtain ⟨p, l, e, R, s, m, args, below, meth, c, Q, nL⟩ := Γ
  obtain ⟨hx, hb, hml, hown, hts, hAm, hlk, htr⟩ := X
  exact fun H locs ls hp hS hl => lv_icmp_eq hx hb hdg ht (fun z => kt z H locs ls hp hS hl) (fun z => kf z H locs ls hp hS hl)
theorem k_icmp_ne (X : kX Γ E A cc own) {x y : Int32} {off : Int} {tgt : Nat} (hdg : decode cc pc = .ok (.if_icmp .ne off, 3)) (ht : (pc : Int) + off = (tgt : Int)) (kt : ¬ x = y → kW Γ E A C L cells slots tgt lo rest) (kf : x = y → kW Γ E A C L cells slots (pc + 3) lo rest) : kW Γ E A C L cells slots pc lo (.int y :: .int x :: rest) := by
  obtain ⟨p, l, e, R, s, m, args, below, meth, c, Q, nL⟩ := Γ
  obtain ⟨hx, hb, hml, hown, hts, hAm, hlk, htr⟩ := X
  exact fun H locs ls hp hS hl => lv_icmp_ne hx hb hdg ht (fun z => kt z H locs ls hp hS hl) (fun z => kf z H locs ls hp hS hl)
theorem k_icmp_lt (X : kX Γ E A cc own) {x y : Int32} {off : Int} {tgt : Nat} (hdg : decode cc pc = .ok (.if_icmp .lt off, 3)) (ht : (pc : Int) + off = (tgt : Int)) (kt : x < y → kW Γ E A C L cells slots tgt lo rest) (kf : ¬ x < y → kW Γ E A C L cells slots (pc + 3) lo rest) : kW Γ E A C L cells slots pc lo (.int y :: .int x :: rest) := by
  obtain ⟨p, l, e, R, s, m, args, below, meth, c, Q, nL⟩ := Γ
  obtain ⟨hx, hb, hml, hown, hts, hAm, hlk, htr⟩ := X
  exact fun H locs ls hp hS hl => lv_icmp_lt hx hb hdg ht (fun z => kt z H locs ls hp hS hl) (fun z => kf z H locs ls hp hS hl)
theorem k_icmp_ge (X : kX Γ E A cc own) {x y : Int32} {off : Int} {tgt : Nat} (hdg : decode cc pc = .ok (.if_icmp .ge off, 3)) (ht : (pc : Int) + off = (tgt : Int)) (kt : y ≤ x → kW Γ E A C L cells slots tgt lo rest) (kf : ¬ y ≤ x → kW Γ E A C L cells slots (pc + 3) lo rest) : kW Γ E A C L cells slots pc lo (.int y :: .int x :: rest) := by
  obtain ⟨p, l, e, R, s, m, args, below, meth, c, Q, nL⟩ := Γ
  obtain ⟨hx, hb, hml, hown, hts, hAm, hlk, htr⟩ := X
  exact fun H locs ls hp hS hl => lv_icmp_ge hx hb hdg ht (fun z => kt z H locs ls hp hS hl) (fun z => kf z H locs ls hp hS hl)
theorem k_icmp_gt (X : kX Γ E A cc own) {x y : Int32} {off : Int} {tgt : Nat} (hdg : decode cc pc = .ok (.if_icmp .gt off, 3)) (ht : (pc : Int) + off = (tgt : Int)) (kt : y < x → kW Γ E A C L cells slots tgt lo rest) (kf : ¬ y < x → kW Γ E A C L cells slots (pc + 3) lo rest) : kW Γ E A C L cells slots pc lo (.int y :: .int x :: rest) := by
  obtain ⟨p, l, e, R, s, m, args, below, meth, c, Q, nL⟩ := Γ
  obtain ⟨hx, hb, hml, hown, hts, hAm, hlk, htr⟩ := X
  exact fun H locs ls hp hS hl => lv_icmp_gt hx hb hdg ht (fun z => kt z H locs ls hp hS hl) (fun z => kf z H locs ls hp hS hl)
theorem k_icmp_le (X : kX Γ E A cc own) {x y : Int32} {off : Int} {tgt : Nat} (hdg : decode cc pc = .ok (.if_icmp .le off, 3)) (ht : (pc : Int) + off = (tgt : Int)) (kt : x ≤ y → kW Γ E A C L cells slots tgt lo rest) (kf : ¬ x ≤ y → kW Γ E A C L cells slots (pc + 3) lo rest) : kW Γ E A C L cells slots pc lo (.int y :: .int x :: rest) := by
  obtain ⟨p, l, e, R, s, m, args, below, meth, c, Q, nL⟩ := Γ
  obtain ⟨hx, hb, hml, hown, hts, hAm, hlk, htr⟩ := X
  exact fun H locs ls hp hS hl => lv_icmp_le hx hb hdg ht (fun z => kt z H locs ls hp hS hl) (fun z => kf z H locs ls hp hS hl)
theorem k_acmp_eq (X : kX Γ E A cc own) {rx ry : Nat} {off : Int} {tgt : Nat} (hdg : decode cc pc = .ok (.if_acmp .eq off, 3)) (ht : (pc : Int) + off = (tgt : Int)) (kt : rx = ry → kW Γ E A C L cells slots tgt lo rest) (kf : ¬ rx = ry → kW Γ E A C L cells slots (pc + 3) lo rest) : kW Γ E A C L cells slots pc lo (.ref ry :: .ref rx :: rest) := by
  obtain ⟨p, l, e, R, s, m, args, below, meth, c, Q, nL⟩ := Γ
  obtain ⟨hx, hb, hml, hown, hts, hAm, hlk, htr⟩ := X
  exact fun H locs ls hp hS hl => lv_acmp_eq (rx := some rx) (ry := some ry) hx hb hdg ht (fun z => kt (Option.some.inj z) H locs ls hp hS hl) (fun z => kf (fun y => z (congrArg some y)) H locs ls hp hS hl)
theorem k_acmp_ne (X : kX Γ E A cc own) {rx ry : Nat} {off : Int} {tgt : Nat} (hdg : decode cc pc = .ok (.if_acmp .ne off, 3)) (ht : (pc : Int) + off = (tgt : Int)) (kt : ¬ rx = ry → kW Γ E A C L cells slots tgt lo rest) (kf : rx = ry → kW Γ E A C L cells slots (pc + 3) lo rest) : kW Γ E A C L cells slots pc lo (.ref ry :: .ref rx :: rest) := by
  obtain ⟨p, l, e, R, s, m, args, below, meth, c, Q, nL⟩ := Γ
  obtain ⟨hx, hb, hml, hown, hts, hAm, hlk, htr⟩ := X
  exact fun H locs ls hp hS hl => lv_acmp_ne (rx := some rx) (ry := some ry) hx hb hdg ht (fun z => kt (fun y => z (congrArg some y)) H locs ls hp hS hl) (fun z => kf (Option.some.inj z) H locs ls hp hS hl)
theorem k_ifnonnull (X : kX Γ E A cc own) {x : Nat} {off : Int} {tgt : Nat} (hdg : decode cc pc = .ok (.ifnonnull off, 3)) (ht : (pc : Int) + off = (tgt : Int)) (k9 : kW Γ E A C L cells slots tgt lo rest) : kW Γ E A C L cells slots pc lo (.ref x :: rest) := by
  obtain ⟨p, l, e, R, s, m, args, below, meth, c, Q, nL⟩ := Γ
  obtain ⟨hx, hb, hml, hown, hts, hAm, hlk, htr⟩ := X
  exact fun H locs ls hp hS hl => lv_ifnonnull hx hb hdg ht (k9 H locs ls hp hS hl)
theorem k_ifnonnullN (X : kX Γ E A cc own) {off : Int} (hdg : decode cc pc = .ok (.ifnonnull off, 3)) (k9 : kW Γ E A C L cells slots (pc + 3) lo rest) : kW Γ E A C L cells slots pc lo (.null :: rest) := by
  obtain ⟨p, l, e, R, s, m, args, below, meth, c, Q, nL⟩ := Γ
  obtain ⟨hx, hb, hml, hown, hts, hAm, hlk, htr⟩ := X
  exact fun H locs ls hp hS hl => lv_ifnonnullN hx hb hdg (k9 H locs ls hp hS hl)
theorem k_ifnull (X : kX Γ E A cc own) {x : Nat} {off : Int} (hdg : decode cc pc = .ok (.ifnull off, 3)) (k9 : kW Γ E A C L cells slots (pc + 3) lo rest) : kW Γ E A C L cells slots pc lo (.ref x :: rest) := by
  obtain ⟨p, l, e, R, s, m, args, below, meth, c, Q, nL⟩ := Γ
  obtain ⟨hx, hb, hml, hown, hts, hAm, hlk, htr⟩ := X
  exact fun H locs ls hp hS hl => lv_ifnull hx hb hdg (k9 H locs ls hp hS hl)
theorem k_ifnullN (X : kX Γ E A cc own) {off : Int} {tgt : Nat} (hdg : decode cc pc = .ok (.ifnull off, 3)) (ht : (pc : Int) + off = (tgt : Int)) (k9 : kW Γ E A C L cells slots tgt lo rest) : kW Γ E A C L cells slots pc lo (.null :: rest) := by
  obtain ⟨p, l, e, R, s, m, args, below, meth, c, Q, nL⟩ := Γ
  obtain ⟨hx, hb, hml, hown, hts, hAm, hlk, htr⟩ := X
  exact fun H locs ls hp hS hl => lv_ifnullN hx hb hdg ht (k9 H locs ls hp hS hl)
theorem k_ldc (X : kX Γ E A cc own) {index : Nat} {v : Int32} (hc : Cond.constant own index v ∈ wsL_law) (hdg : decode cc pc = .ok (.ldc index, 2)) (k9 : kW Γ E A C L cells slots (pc + 2) lo (.int v :: rest)) : kW Γ E A C L cells slots pc lo rest := by
  obtain ⟨p, l, e, R, s, m, args, below, meth, c, Q, nL⟩ := Γ
  obtain ⟨hx, hb, hml, hown, hts, hAm, hlk, htr⟩ := X
  exact fun H locs ls hp hS hl => lv_ldc hx hb hown (hts _ hc) hdg (k9 H locs ls hp hS hl)
theorem k_get0 (X : kX Γ E A cc own) {t : kT} {a : Nat} {ci : Nat} {fs : List Value} (hC : C t = some (.inr (ci, fs))) {q : vw_C} (hc : vwCl[ci]? = some q) (hin : ∀ w ∈ u_ws q.1 q.2.1 q.2.2, w ∈ wsL_law) (k : Nat) {v : Value} {index : Nat} {ref : String} (hk : k < q.2.2) (hlink : Cond.fieldLink own index ref (q.2.1 k).2.1 (q.2.1 k).2.2.1 ∈ wsL_law) (hsame : ref = (q.2.1 k).1 ∨ Cond.sameField ref (q.2.1 k).1 (q.2.1 k).2.1 (q.2.1 k).2.2.1 ∈ wsL_law) (ha : L t = a) (hv : fs[k]? = some v) (hdg : decode cc pc = .ok (.getfield index, 3)) (k9 : kW Γ E A C L cells slots (pc + 3) lo (v :: rest)) : kW Γ E A C L cells slots pc lo (.ref a :: rest) := by
  obtain ⟨p, l, e, R, s, m, args, below, meth, c, Q, nL⟩ := Γ
  obtain ⟨hx, hb, hml, hown, hts, hAm, hlk, htr⟩ := X
  intro H locs ls hp hS hl
  subst ha
  refine va_get hx hb hts hin hown hAm.1 (hp.P hC) 0 rfl hc k hk (hts _ hlink) (fun x h => ?_) hv hdg (k9 H locs ls hp hS hl)
  rcases hsame with h9 | h9
  · rw [h9]; exact h
  · exact u_same (hts _ h9) x h
theorem kt_put {s : State} {args : Array Value} {E : kE} {A : Nat → Prop} (hts : ∀ w ∈ wsL_law, w.before args s = true) (hAm : kAm E A s) {C : kC} {L : kL} {H : Heap} (hp : kp E A C L H) {t : kT} {ci : Nat} {fs : List Value} (hC : C t = some (.inr (ci, fs))) {q : vw_C} (hc : vwCl[ci]? = some q) (hin : ∀ w ∈ u_ws q.1 q.2.1 q.2.2, w ∈ wsL_law) (ty0 : Nat → FieldType) (hty : ∀ k, k < q.2.2 → parseFieldDescriptor (q.2.1 k).2.2.1 = some (ty0 k)) (hnm : ∀ a, a < q.2.2 → ∀ b, b < q.2.2 → a ≠ b → (q.2.1 a).2.1 ≠ (q.2.1 b).2.1) (k : Nat) (hk : k < q.2.2) {v : Value} (hl : k < fs.length) :
    ∃ (cell : Cell) (cf : ClassId) (kf : Class) (fi : Nat) (f : Field), H[L t]? = some cell ∧ cell.cls = E.1.1 ci ∧ cell.vm = .none ∧ s.fieldFound? (q.2.1 k).1 (q.2.1 k).2.1 (q.2.1 k).2.2.1 = some (cf, kf, fi, f) ∧ f.slot < cell.slots.size ∧ f.isStatic = false ∧
      (∀ H1 : Heap, H1[L t]? = some (cell.setSlot f.slot v) → (∀ q : Nat, q ≠ L t → H1[q]? = H[q]?) → kp E A (kup C t (some (.inr (ci, fs.set k v)))) L H1) := by
  have hap := va_apart (own := "") hts hin ty0 hty hnm hAm.1 hc
  obtain ⟨r, h1, cell, q1, q2, q3, q4⟩ := (hp.1 t _ hC).1
  have hr : r = q := Option.some.inj (h1.symm.trans hc)
  subst hr
  obtain ⟨hS, hfc, kC, hkC, hkind⟩ := hAm.1.1 ci _ hc
  obtain ⟨cf, kf, fi, f, hi, hsl⟩ := hS k hk
  have hst := (u_facts hfc hkC (u_lays hts hin hk) hi).1
  refine ⟨cell, cf, kf, fi, f, q1, q2, q3, hi, by rw [hsl]; exact k2_hasslot (q4 k hk), hst, fun H1 e1 oq => ?_⟩
  rw [hsl] at e1
  exact hp.upd hC ⟨_, hc, t_OB.to (V := updV (vp_V fs) k v) ⟨_, e1, q2, q3, t_set q4 hap hk v⟩ (fun j _ => vp_updV_set hl v j)⟩ oq
theorem k_put0 (X : kX Γ E A cc own) {t : kT} {a : Nat} {ci : Nat} {fs : List Value} (hC : C t = some (.inr (ci, fs))) {q : vw_C} (hc : vwCl[ci]? = some q) (hin : ∀ w ∈ u_ws q.1 q.2.1 q.2.2, w ∈ wsL_law) (ty0 : Nat → FieldType) (hty : ∀ k, k < q.2.2 → parseFieldDescriptor (q.2.1 k).2.2.1 = some (ty0 k)) (hnm : ∀ a, a < q.2.2 → ∀ b, b < q.2.2 → a ≠ b → (q.2.1 a).2.1 ≠ (q.2.1 b).2.1) (k : Nat) {v : Value} {index : Nat} {ref : String} (hk : k < q.2.2) (hlink : Cond.fieldLink own index ref (q.2.1 k).2.1 (q.2.1 k).2.2.1 ∈ wsL_law) (hsame : ref = (q.2.1 k).1 ∨ Cond.sameField ref (q.2.1 k).1 (q.2.1 k).2.1 (q.2.1 k).2.2.1 ∈ wsL_law) (hfin : (q.2.1 k).2.2.2 = false ∨ ((kMe Γ).name = "<init>" ∧ (q.2.1 k).1 = own)) (ha : L t = a) (hn : narrow (ty0 k) v = v) (hfit : fits (ty0 k) v = true) (hl9 : k < fs.length) (hdg : decode cc pc = .ok (.putfield index, 3)) (k9 : kW Γ E A (kup C t (some (.inr (ci, fs.set k v)))) L cells slots (pc + 3) lo rest) : kW Γ E A C L cells slots pc lo (v :: .ref a :: rest) := by
  obtain ⟨p, l, e, R, s, m, args, below, meth, c, Q, nL⟩ := Γ
  obtain ⟨hx, hb, hml, hown, hts, hAm, hlk, htr⟩ := X
  intro H locs ls hp hS hl
  subst ha
  obtain ⟨cell, cf, kf, fi, f, g1, g2, g3, hi, g4, hst, key⟩ := kt_put hts hAm hp hC hc hin ty0 hty hnm k hk (v := v) hl9
  obtain ⟨-, hfc, kC, hkC, hkind⟩ := hAm.1.1 ci _ hc
  have hi2 : s.fieldFound? ref (q.2.1 k).2.1 (q.2.1 k).2.2.1 = some (cf, kf, fi, f) := by
    rcases hsame with h9 | h9
    · rw [h9]; exact hi
    · exact u_same (hts _ h9) _ hi
  have hlay := hts _ (hin _ (u_in_lay hk))
  unfold u_lay at hlay
  by_cases hf : (q.2.1 k).2.2.2 = true
  · rw [if_pos hf] at hlay
    have hF : meth.name = "<init>" ∧ (q.2.1 k).1 = own := by
      rcases hfin with h9 | h9
      · rw [hf] at h9; cases h9
      · exact h9
    have hcf : m.cls = cf := by
      obtain ⟨_, _, c', _, _, _, -, -, hf', -, -, -, hown2, -⟩ := Cond.laysFinal_spec hlay
      have e1 : c' = cf := by have := hi.symm.trans hf'; simp at this; exact this.1.symm
      rw [hF.2] at hown2
      rw [← e1]; exact Option.some.inj (hown.symm.trans hown2)
    have h6 := u_fits hfc hkC hkind (u_lays hts hin hk) hi (hty k hk) hn hfit
    refine W.putFinK hx hb hown (hts _ hlink) hi2 hst hcf hF.1 (by rw [g2]; exact h6) g1 g3 g4 rfl rfl hdg fun H' e1 e2 e3 => ?_
    exact k9 H' _ ls (key H' e1 e3) (hS.put e2 e3 (hp.1 t _ hC).2) hl
  · rw [if_neg hf] at hlay
    have h6 := u_store hfc hkC hkind hlay hi (hty k hk) hn hfit
    refine W.putK hx hb (f := f) ⟨hown, hts _ hlink, ⟨_, _, _, hi2⟩, hst⟩ (by rw [g2]; exact h6) g1 g3 g4 rfl rfl hdg fun H' e1 e2 e3 => ?_
    exact k9 H' _ ls (key H' e1 e3) (hS.put e2 e3 (hp.1 t _ hC).2) hl
end KR