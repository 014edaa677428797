def kEx (Γ : kG) : List ExceptionTableEntry := Γ.2.2.2.2.2.2.2.2.2.1.exceptionTable.toList
/-- a method with handlers that returns -/
def kMH (l : Launch) (y : MethodName) (cc : ByteArray) (n : Nat) (ret : Option FieldType) (hh : List (Nat × Nat × Nat × Nat)) (fr lw mc ms : Nat) (E : kE) (A : Nat → Prop) (C : kC) (L : kL) (av : List Value) (P : Option Value → kC → kL → Prop) : Prop :=
  Met l y (.codeWith y cc n ret hh :: wsL_law) ({ frames := fr, cells := mc, slots := ms, locals := lw } : Room) (kPc E A C L av) (kQc E A P) mc ms A
def kSH (y : MethodName) (cc : ByteArray) (n : Nat) (ret : Option FieldType) (hh : List (Nat × Nat × Nat × Nat)) (na : Nat) : Prop := Cond.static y ∈ wsL_law ∧ Cond.initialized y.cls ∈ wsL_law ∧ Cond.codeWith y cc n ret hh ∈ wsL_law ∧ y.cls ≠ "java/lang/invoke/MethodHandle" ∧ y.cls ≠ "java/lang/invoke/VarHandle" ∧ (parseMethodDescriptor y.desc).map (fun d => d.parameters.length) = some na
theorem kSH.good {own : String} {idx n na : Nat} {y : MethodName} {cc : ByteArray} {ret : Option FieldType} {hh : List (Nat × Nat × Nat × Nat)} (h : kSH y cc n ret hh na) (hl : Cond.methodLink own idx y ∈ wsL_law) : GoodIn wsL_law (va_wsS own idx y (.codeWith y cc n ret hh :: wsL_law)) := by
  refine kGI fun w hw => ?_
  unfold va_wsS at hw
  rcases List.mem_append.mp hw with h9 | h9
  · simp only [List.mem_cons, List.not_mem_nil, or_false] at h9
    rcases h9 with e | e | e
    · rw [e]; exact hl
    · rw [e]; exact h.1
    · rw [e]; exact h.2.1
  · rcases List.mem_cons.mp h9 with e | e
    · rw [e]; exact h.2.2.1
    · exact e
section KH
variable {Γ : kG} {E : kE} {A : Nat → Prop} {cc : ByteArray} {own : String} {C : kC} {L : kL} {cells slots pc : Nat} {lo : List (Nat × Value)} {rest : List Value} {P : Option Value → kC → kL → Prop} {PX : String → Prop} {mc ms : Nat}
variable {y : MethodName} {cy : ByteArray} {n9 na fr lw mc9 ms9 idx : Nat} {ret : Option FieldType} {hh : List (Nat × Nat × Nat × Nat)} {av : List Value} {P9 : Option Value → kC → kL → Prop} {PX9 : String → Prop} {b : Nat} {st : List Value}
theorem k_callSH (X : kX Γ E A cc own) (hv : kSH y cy n9 ret hh na) (hlink : Cond.methodLink own idx y ∈ wsL_law) (hM : kMH Γ.2.1 y cy n9 ret hh fr lw mc9 ms9 E A C L av P9) (hna : av.length = na) (hst : av.reverse ++ rest = st) (hcat : (rest.map fun v => v.category).sum ≤ 8) (hR : fr + 1 ≤ (kRm Γ).frames ∧ 8 + (n9 + 11) + lw ≤ (kRm Γ).locals) (hf : cells + mc9 ≤ (kRm Γ).cells ∧ slots + ms9 ≤ (kRm Γ).slots) (hdg : decode cc pc = .ok (.invokestatic idx, 3))
    (k9 : ∀ (v : Option Value) (C' : kC) (L' : kL), P9 v C' L' → kW Γ E A C' L' (cells + mc9) (slots + ms9) (pc + 3) lo (kpush v rest)) : kW Γ E A C L cells slots pc lo st := by
  obtain ⟨p, l, e, R, s, m, args, below, meth, c, Q, nL⟩ := Γ
  obtain ⟨hx, hb, hml, hown, hts, hAm, hlk, htr⟩ := X
  intro H locs ls hp hS hl
  subst hst
  exact k_cont (vx_runSW ⟨hx, hb, hml, hown, hts⟩ hM (vx_cwSW na hts (hv.good hlink) rfl rfl rfl ⟨hv.2.2.2.1, hv.2.2.2.2.1, hv.2.2.2.2.2⟩ hR) ⟨kPc.blind, fun U hU hW => ⟨rfl, by rw [hU]; exact hp, kt_am hAm hS hU hW⟩⟩ rfl hna hl.1 rfl (lv_room hcat) hdg hf) hS (fun v C' L' H1 locs1 h1 h2 h3 => k9 v C' L' h1 H1 locs1 ls h2 h3 hl)
/-- a call in a method with handlers -/
theorem k_callVH (X : kX Γ E A cc own) (hT : kEx Γ = tableOf hh) (hv : kV y cy n9 ret na) (hlink : Cond.methodLink own idx y ∈ wsL_law) (hM : kMX Γ.2.1 y cy n9 ret fr lw mc9 ms9 E A C L (.ref b :: av) P9 PX9) {t : kT} {ci : Nat} {vs : List Value} {r : vw_C} (hC : C t = some (.inr (ci, vs))) (hc9 : vwCl[ci]? = some r) (hcls : r.1 = y.cls) (hb9 : L t = b) (hna : av.length = na) (hst : av.reverse ++ .ref b :: rest = st) (hcat : (rest.map fun v => v.category).sum ≤ 8) (hR : fr + 1 ≤ (kRm Γ).frames ∧ 8 + (n9 + 11) + lw ≤ (kRm Γ).locals) (hf : cells + mc9 ≤ (kRm Γ).cells ∧ slots + ms9 ≤ (kRm Γ).slots) (hdg : decode cc pc = .ok (.invokevirtual idx, 3))
    (kx : ∀ X9, PX9 X9 → ∃ (pre : List ExceptionTableEntry) (x : ExceptionTableEntry) (suf : List ExceptionTableEntry) (nm : String), tableOf hh = pre ++ x :: suf ∧ (∀ z ∈ pre, covers z pc = false ∨ (z.catchType ≠ 0 ∧ ∃ nm2 : String, Cond.classLink own z.catchType nm2 ∈ wsL_law ∧ (X9, nm2) ∈ kNcs)) ∧ covers x pc = true ∧ x.catchType ≠ 0 ∧ Cond.classLink own x.catchType nm ∈ wsL_law ∧ (X9, nm) ∈ kCas ∧ ∀ q : Nat, kW Γ E A C L (cells + mc9) (slots + ms9) x.handlerPc lo [.ref q])
    (k9 : ∀ (v : Option Value) (C' : kC) (L' : kL), P9 v C' L' → kW Γ E A C' L' (cells + mc9) (slots + ms9) (pc + 3) lo (kpush v rest)) : kW Γ E A C L cells slots pc lo st := by
  obtain ⟨p, l, e, R, s, m, args, below, meth, c, Q, nL⟩ := Γ
  obtain ⟨hx, hb, hml, hown, hts, hAm, hlk, htr⟩ := X
  intro H locs ls hp hS hl
  subst hst
  subst hb9
  refine k_contX (vx_runV ⟨hx, hb, hml, hown, hts⟩ hM (cwV na hts (hv.good hlink) rfl rfl rfl ⟨rfl, hv.2.2.2.2.1, hv.2.2.2.2.2.1, hv.2.2.2.2.2.2⟩ hR) ⟨kPc.blind, ?_, fun U hU hW => ⟨rfl, by rw [hU]; exact hp, kt_am hAm hS hU hW⟩⟩ rfl hna hl.1 rfl (lv_room hcat) hdg hf) hS (fun X9 ce q9 H1 locs1 h1 h2 h3 h4 h5 h6 => ?_) (fun v C' L' H1 locs1 h1 h2 h3 => k9 v C' L' h1 H1 locs1 ls h2 h3 hl)
  · rw [← hcls]
    exact va_recv hAm.1 (hp.P hC) (q0 := 0) hc9 rfl
  · obtain ⟨pre, x, suf, nm, e1, e2, e3, e4, e5, e6, e7⟩ := kx X9 h1
    refine vx_catch hown pre x suf (hT.trans e1) (fun z hz => ?_) e3 e4 (hts _ e5) (va_Nw.use rfl (hAm.2.2.2.2.2.2.1 _ e6)) h4 h5 h6 (e7 q9 H1 locs1 ls h2 h3 hl)
    rcases e2 z hz with h | ⟨h, nm2, g1, g2⟩
    · exact Or.inl h
    · exact Or.inr ⟨h, nm2, hts _ g1, hAm.2.2.2.2.2.2.2.2.1 _ g2⟩
end KH
theorem kMH.of {l : Launch} {y : MethodName} {cc : ByteArray} {n : Nat} {ret : Option FieldType} {hh : List (Nat × Nat × Nat × Nat)} {fr lw mc ms : Nat} {E : kE} {A : Nat → Prop} {C : kC} {L : kL} {av : List Value} {P : Option Value → kC → kL → Prop} (htr : l.stackTraces = false) (hy : plainName y.cls = true) (hlen : (lg_sl av).length ≤ n)
    (body : ∀ Γ : kG, Γ.2.1 = l → kRm Γ = ({ frames := fr, cells := mc, slots := ms, locals := lw } : Room) → kNl Γ = n → kEx Γ = tableOf hh → kX Γ E A cc y.cls → kEnd Γ E A P mc ms ret → kW Γ E A C L 0 0 0 (lv_args 0 av) []) : kMH l y cc n ret hh fr lw mc ms E A C L av P := by
  refine va_MetW (cc := cc) (maxL := n) (ret := ret) (hh := hh) hy rfl ?_
  intro p e s m args below meth c s₁ B hml hv
  obtain ⟨rfl, hp, hAm⟩ := hv
  have hts := atoms_spec (ws := .codeWith y cc n ret hh :: wsL_law) B.pre
  have h9 := body (p, l, e, _, s, m, av.toArray, below, meth, c, _, n) rfl rfl rfl (vx_table (x := y) B (hts _ List.mem_cons_self)) ⟨B.exec, B.bytes, hml, findClass_of_methodNamed B.named, fun w hw => hts w (List.mem_cons_of_mem _ hw), hAm, B.notSynchronized, htr⟩ ⟨B.returns, fun H locs g k => k⟩
  rw [lg_entry_eq]
  exact h9 s.heap [] _ hp va_S.rf (lv_entry av hlen)
section KT
variable {Γ : kG} {E : kE} {A : Nat → Prop} {cc : ByteArray} {own : String} {C : kC} {L : kL} {cells slots pc : Nat} {lo : List (Nat × Value)} {rest : List Value}
theorem k_tableIn (X : kX Γ E A cc own) {dflt lo9 hi9 : Int} {offs : Array Int} {len : Nat} {x : Int32} {off : Int} {tgt : Nat} (hdg : decode cc pc = .ok (.tableswitch dflt lo9 hi9 offs, len)) (h1 : ¬ x.toInt < lo9) (h2 : ¬ hi9 < x.toInt) (ho : offs[(x.toInt - lo9).toNat]? = some off) (ht : (pc : Int) + off = (tgt : Int)) (k : kW Γ E A C L cells slots tgt lo rest) : kW Γ E A C L cells slots pc lo (.int x :: rest) := by
  obtain ⟨p, l, e, R, s, m, args, below, meth, c, Q, nL⟩ := Γ
  obtain ⟨hx, hb, hml, hown, hts, hAm, hlk, htr⟩ := X
  exact fun H locs ls hp hS hl => lv_tableIn hx hb hdg h1 h2 ho ht (k H locs ls hp hS hl)
theorem k_tableOut (X : kX Γ E A cc own) {dflt lo9 hi9 : Int} {offs : Array Int} {len : Nat} {x : Int32} {tgt : Nat} (hdg : decode cc pc = .ok (.tableswitch dflt lo9 hi9 offs, len)) (h : x.toInt < lo9 ∨ hi9 < x.toInt) (ht : (pc : Int) + dflt = (tgt : Int)) (k : kW Γ E A C L cells slots tgt lo rest) : kW Γ E A C L cells slots pc lo (.int x :: rest) := by
  obtain ⟨p, l, e, R, s, m, args, below, meth, c, Q, nL⟩ := Γ
  obtain ⟨hx, hb, hml, hown, hts, hAm, hlk, htr⟩ := X
  exact fun H locs ls hp hS hl => lv_tableOut hx hb hdg h ht (k H locs ls hp hS hl)
end KT
theorem isX.low {E : kE} {C C' : kC} {L L' : kL} {S : kI4} {N : kN3} (h : isX E C L S N) (hm : ∀ t : kT, (t.1 ≤ 19 ∨ t.1 = 60) → C' t = C t ∧ L' t = L t) : isX E C' L' S N := by
  refine ⟨h.1.keep (fun f i hf => (hm _ (show f ≤ 19 ∨ f = 60 by omega)).1) (fun f i hf => (hm _ (show f ≤ 19 ∨ f = 60 by omega)).2) (fun _ _ _ _ => rfl) rfl, fun d hd => (h.2 d hd).keep (fun f k h1 h2 h3 h4 => (hm _ (show f ≤ 19 ∨ f = 60 by omega)).1) (fun f k h1 h2 h3 h4 => (hm _ (show f ≤ 19 ∨ f = 60 by omega)).2) (fun _ _ _ _ _ => rfl) (fun _ _ _ _ => rfl)⟩

section KD
variable {Γ : kG} {E : kE} {A : Nat → Prop} {cc : ByteArray} {own : String} {C : kC} {L : kL} {cells slots pc : Nat} {lo : List (Nat × Value)} {rest : List Value}
theorem k_iremN (X : kX Γ E A cc own) {a b : Nat} (ha : a < 2 ^ 31) (h0 : 0 < b) (hb2 : b < 2 ^ 31) (hdg : decode cc pc = .ok (.irem, 1)) (k : kW Γ E A C L cells slots (pc + 1) lo (.int (nI (a % b)) :: rest)) : kW Γ E A C L cells slots pc lo (.int (nI b) :: .int (nI a) :: rest) := by
  obtain ⟨p, l, e, R, s, m, args, below, meth, c, Q, nL⟩ := Γ
  obtain ⟨hx, hb, hml, hown, hts, hAm, hlk, htr⟩ := X
  exact fun H locs ls hp hS hl => lv_irem hx hb hdg (nI_ne0 h0 hb2) (by rw [pk_rem ha h0 hb2]; exact k H locs ls hp hS hl)
theorem k_idivN (X : kX Γ E A cc own) {a b : Nat} (ha : a < 2 ^ 31) (h0 : 0 < b) (hb2 : b < 2 ^ 31) (hdg : decode cc pc = .ok (.idiv, 1)) (k : kW Γ E A C L cells slots (pc + 1) lo (.int (nI (a / b)) :: rest)) : kW Γ E A C L cells slots pc lo (.int (nI b) :: .int (nI a) :: rest) := by
  obtain ⟨p, l, e, R, s, m, args, below, meth, c, Q, nL⟩ := Γ
  obtain ⟨hx, hb, hml, hown, hts, hAm, hlk, htr⟩ := X
  exact fun H locs ls hp hS hl => lv_idiv hx hb hdg (nI_ne0 h0 hb2) (by rw [pk_div ha h0 hb2]; exact k H locs ls hp hS hl)
end KD
/-! THE SECOND STORE: its things have the names f + 100; names from 200 on stay -/
def kr (f : Nat) : Nat := if f < 100 then f + 100 else if f < 200 then f - 100 else f
theorem kr_kr (f : Nat) : kr (kr f) = f := by
  unfold kr
  by_cases h : f < 100
  · rw [if_pos h, if_neg (by omega), if_pos (by omega)]
    omega
  · rw [if_neg h]
    by_cases h2 : f < 200
    · rw [if_pos h2, if_pos (by omega)]
      omega
    · rw [if_neg h2, if_neg h, if_neg h2]
theorem kr_lo {f : Nat} (h : f < 100) : kr f = f + 100 := if_pos h
theorem kr_hi {f : Nat} (h : 200 ≤ f) : kr f = f := (if_neg (by omega)).trans (if_neg (by omega))
def kq {α : Type} (f : kT → α) : kT → α := fun t => f (kr t.1, t.2)
theorem kq_kq {α : Type} (f : kT → α) : kq (kq f) = f := by
  funext t
  show f (kr (kr t.1), t.2) = f t
  rw [kr_kr]
theorem kp.q {E : kE} {A : Nat → Prop} {C : kC} {L : kL} {H : Heap} (h : kp E A C L H) : kp E A (kq C) (kq L) H := by
  refine ⟨fun t e ht => h.1 (kr t.1, t.2) e ht, fun t u e f h1 h2 hL => ?_⟩
  have z := h.2 (kr t.1, t.2) (kr u.1, u.2) e f h1 h2 hL
  have z1 : ((kr t.1, t.2) : kT).1 = ((kr u.1, u.2) : kT).1 := congrArg Prod.fst z
  have z2 : ((kr t.1, t.2) : kT).2 = ((kr u.1, u.2) : kT).2 := congrArg Prod.snd z
  have z4 : kr t.1 = kr u.1 := z1
  have z3 : t.1 = u.1 := by rw [← kr_kr t.1, z4, kr_kr]
  exact Prod.ext z3 z2
theorem kp.q' {E : kE} {A : Nat → Prop} {C : kC} {L : kL} {H : Heap} (h : kp E A (kq C) (kq L) H) : kp E A C L H := by
  have z := h.q
  rw [kq_kq, kq_kq] at z
  exact z
section KI
variable {l : Launch} {y : MethodName} {cc : ByteArray} {n : Nat} {ret : Option FieldType} {hh : List (Nat × Nat × Nat × Nat)} {fr lw mc ms : Nat} {E : kE} {A : Nat → Prop} {C : kC} {L : kL} {av : List Value} {P P' : Option Value → kC → kL → Prop}
theorem kMH.imp (h : kMH l y cc n ret hh fr lw mc ms E A C L av P) (hq : ∀ v C' L', P v C' L' → P' v C' L') : kMH l y cc n ret hh fr lw mc ms E A C L av P' := by
  intro p e ha hc hk s m args below hf happ hP hK
  obtain ⟨k, o, h1, h2, h3, ⟨⟨v, C', L', e1, e2, e3⟩, e4⟩, e5⟩ := h p e ha hc hk s m args below hf happ hP hK
  exact ⟨k, o, h1, h2, h3, ⟨⟨v, C', L', e1, hq _ _ _ e2, e3⟩, e4⟩, e5⟩
theorem kM.imp (h : kM l y cc n ret fr lw mc ms E A C L av P) (hq : ∀ v C' L', P v C' L' → P' v C' L') : kM l y cc n ret fr lw mc ms E A C L av P' := by
  intro p e ha hc hk s m args below hf happ hP hK
  obtain ⟨k, o, h1, h2, h3, ⟨⟨v, C', L', e1, e2, e3⟩, e4⟩, e5⟩ := h p e ha hc hk s m args below hf happ hP hK
  exact ⟨k, o, h1, h2, h3, ⟨⟨v, C', L', e1, hq _ _ _ e2, e3⟩, e4⟩, e5⟩
theorem kMH.q (h : kMH l y cc n ret hh fr lw mc ms E A (kq C) (kq L) av P) : kMH l y cc n ret hh fr lw mc ms E A C L av (fun v C' L' => P v (kq C') (kq L')) := by
  intro p e ha hc hk s m args below hf happ hP hK
  obtain ⟨k, o, h1, h2, h3, ⟨⟨v, C', L', e1, e2, e3⟩, e4⟩, e5⟩ := h p e ha hc hk s m args below hf happ ⟨hP.1, hP.2.1.q, hP.2.2⟩ hK
  exact ⟨k, o, h1, h2, h3, ⟨⟨v, kq C', kq L', e1, by show P v (kq (kq C')) (kq (kq L')); rw [kq_kq, kq_kq]; exact e2, e3.q⟩, e4⟩, e5⟩
theorem kM.q (h : kM l y cc n ret fr lw mc ms E A (kq C) (kq L) av P) : kM l y cc n ret fr lw mc ms E A C L av (fun v C' L' => P v (kq C') (kq L')) := by
  intro p e ha hc hk s m args below hf happ hP hK
  obtain ⟨k, o, h1, h2, h3, ⟨⟨v, C', L', e1, e2, e3⟩, e4⟩, e5⟩ := h p e ha hc hk s m args below hf happ ⟨hP.1, hP.2.1.q, hP.2.2⟩ hK
  exact ⟨k, o, h1, h2, h3, ⟨⟨v, kq C', kq L', e1, by show P v (kq (kq C')) (kq (kq L')); rw [kq_kq, kq_kq]; exact e2, e3.q⟩, e4⟩, e5⟩
end KI
theorem isX.keepB {E : kE} {C C' : kC} {L L' : kL} {S : kI4} {N : kN3} (h : isX E (kq C) (kq L) S N) (hF : kFr C L C' L') : isX E (kq C') (kq L') S N :=
  h.low (fun t ht => hF (kr t.1, t.2) (by show 30 ≤ kr t.1; rw [kr_lo (by omega)]; omega))
theorem isX.keepA {E : kE} {C C' : kC} {L L' : kL} {S : kI4} {N : kN3} (h : isX E C L S N) (hF : kFr (kq C) (kq L) (kq C') (kq L')) : isX E C' L' S N := by
  refine h.low (fun t ht => ?_)
  have z := hF (kr t.1, t.2) (by show 30 ≤ kr t.1; rw [kr_lo (by omega)]; omega)
  have e : (kr (kr t.1), t.2) = t := by rw [kr_kr]
  have z1 : C' (kr (kr t.1), t.2) = C (kr (kr t.1), t.2) ∧ L' (kr (kr t.1), t.2) = L (kr (kr t.1), t.2) := z
  rw [e] at z1
  exact z1
/-- the own jobs by devices, as the law counts them -/
def kNa (E : kE) (C : kC) (f : Nat → Int32) : Prop := C (200, 0, 0) = some (.inl (E.2.1 0, 4, .inl f))
theorem kNa.fr {E : kE} {C C' : kC} {L L' : kL} {f : Nat → Int32} (h : kNa E C f) (hF : kFr C L C' L') : kNa E C' f := (hF (200, 0, 0) (show 30 ≤ 200 by decide)).1.trans h
theorem kNa.q {E : kE} {C : kC} {f : Nat → Int32} (h : kNa E C f) : kNa E (kq C) f := by
  show C (kr 200, 0, 0) = _
  rw [kr_hi (by decide)]
  exact h
theorem kNa.q' {E : kE} {C : kC} {f : Nat → Int32} (h : kNa E (kq C) f) : kNa E C f := by
  have z := h.q
  rw [kq_kq] at z
  exact z
theorem kFr.q200 {C C' : kC} {L L' : kL} (hF : kFr (kq C) (kq L) (kq C') (kq L')) : L' (200, 0, 0) = L (200, 0, 0) ∧ L' (1, 0, 0) = L (1, 0, 0) := by
  have z := (hF (200, 0, 0) (show 30 ≤ 200 by decide)).2
  have z1 := (hF (101, 0, 0) (show 30 ≤ 101 by decide)).2
  have e : kr 200 = 200 := kr_hi (by decide)
  have e1 : kr 101 = 1 := by decide
  have z2 : L' (kr 200, 0, 0) = L (kr 200, 0, 0) := z
  have z3 : L' (kr 101, 0, 0) = L (kr 101, 0, 0) := z1
  rw [e] at z2
  rw [e1] at z3
  exact ⟨z2, z3⟩
theorem kFr.l200 {C C' : kC} {L L' : kL} (hF : kFr C L C' L') : L' (200, 0, 0) = L (200, 0, 0) ∧ L' (101, 0, 0) = L (101, 0, 0) := ⟨(hF (200, 0, 0) (show 30 ≤ 200 by decide)).2, (hF (101, 0, 0) (show 30 ≤ 101 by decide)).2⟩
theorem kq1 {L : kL} : kq L (1, 0, 0) = L (101, 0, 0) := rfl
