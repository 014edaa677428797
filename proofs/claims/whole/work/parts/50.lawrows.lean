def kEx (Γ : kG) : List ExceptionTableEntry := Γ.2.2.2.2.2.2.2.2.2.1.exceptionTable.toList
/-- a method with handlers that returns -/
def kMH (l : Launch) (y : MethodName) (cc : ByteArray) (n : Nat) (ret : Option FieldType) (hh : List (Nat × Nat × Nat × Nat)) (fr lw mc ms : Nat) (E : kE) (A : Nat → Prop) (C : kC) (L : kL) (av : List Value) (P : Option Value → kC → kL → Prop) : Prop :=
  Met l y (.codeWith y cc n ret hh :: wsL_law) ({ frames := fr, cells := mc, slots := ms, locals := lw } : Room) (kPc E A C L av) (kQc E A P) mc ms A
def kSH (y : MethodName) (cc : ByteArray) (n : Nat) (ret : Option FieldType) (hh : List (Nat × Nat × Nat × Nat)) (na : Nat) : Prop := Cond.static y ∈ wsL_law ∧ Cond.initialized y.cls ∈ wsL_law ∧ Cond.codeWith y cc n ret hh ∈ wsL_law ∧ y.cls ≠ "java/lang/invoke/MethodHandle" ∧ y.cls ≠ "java/lang/invoke/VarHandle" ∧ (parseMethodDescriptor y.desc).map (fun d => d.parameters.length) = some na
theorem kSH.good {own : String} {idx n na : Nat} {y : MethodName} {cc : ByteArray} {ret : Option FieldType} {hh : List (Nat × Nat × Nat × Nat)} (h : kSH y cc n ret hh na) (hl : Cond.methodLink own idx y ∈ wsL_law) : GoodIn wsL_law (va_wsS own idx y (.codeWith y cc n ret hh :: wsL_law)) := by
  refine kGI fun w hw => ?_
  unfold va_wsS at hw
  rcases List.mem_append.mp hw with h9 | h9
  · simp only [List.mem_cons, List.not_mem_nil, or_false] at h9
    rcases h9 with e | e | e
    · rw [e]; exact hl
    · rw [e]; exact h.1
    · rw [e]; exact h.2.1
  · rcases List.mem_cons.mp h9 with e | e
    · rw [e]; exact h.2.2.1
    · exact e
section KH
variable {Γ : kG} {E : kE} {A : Nat → Prop} {cc : ByteArray} {own : String} {C : kC} {L : kL} {cells slots pc : Nat} {lo : List (Nat × Value)} {rest : List Value} {P : Option Value → kC → kL → Prop} {PX : String → Prop} {mc ms : Nat}
variable {y : MethodName} {cy : ByteArray} {n9 na fr lw mc9 ms9 idx : Nat} {ret : Option FieldType} {hh : List (Nat × Nat × Nat × Nat)} {av : List Value} {P9 : Option Value → kC → kL → Prop} {PX9 : String → Prop} {b : Nat} {st : List Value}
theorem k_callSH (X : kX Γ E A cc own) (hv : kSH y cy n9 ret hh na) (hlink : Cond.methodLink own idx y ∈ wsL_law) (hM : kMH Γ.2.1 y cy n9 ret hh fr lw mc9 ms9 E A C L av P9) (hna : av.length = na) (hst : av.reverse ++ rest = st) (hcat : (rest.map fun v => v.category).sum ≤ 8) (hR : fr + 1 ≤ (kRm Γ).frames ∧ 8 + (n9 + 11) + lw ≤ (kRm Γ).locals) (hf : cells + mc9 ≤ (kRm Γ).cells ∧ slots + ms9 ≤ (kRm Γ).slots) (hdg : decode cc pc = .ok (.invokestatic idx, 3))
    (k9 : ∀ (v : Option Value) (C' : kC) (L' : kL), P9 v C' L' → kW Γ E A C' L' (cells + mc9) (slots + ms9) (pc + 3) lo (kpush v rest)) : kW Γ E A C L cells slots pc lo st := by
  obtain ⟨p, l, e, R, s, m, args, below, meth, c, Q, nL⟩ := Γ
  obtain ⟨hx, hb, hml, hown, hts, hAm, hlk, htr⟩ := X
  intro H locs ls hp hS hl
  subst hst
  exact k_cont (vx_runSW ⟨hx, hb, hml, hown, hts⟩ hM (vx_cwSW na hts (hv.good hlink) rfl rfl rfl ⟨hv.2.2.2.1, hv.2.2.2.2.1, hv.2.2.2.2.2⟩ hR) ⟨kPc.blind, fun U hU hW => ⟨rfl, by rw [hU]; exact hp, kt_am hAm hS hU hW⟩⟩ rfl hna hl.1 rfl (lv_room hcat) hdg hf) hS (fun v C' L' H1 locs1 h1 h2 h3 => k9 v C' L' h1 H1 locs1 ls h2 h3 hl)
/-- a call in a method with handlers -/
theorem k_callVH (X : kX Γ E A cc own) (hT : kEx Γ = tableOf hh) (hv : kV y cy n9 ret na) (hlink : Cond.methodLink own idx y ∈ wsL_law) (hM : kMX Γ.2.1 y cy n9 ret fr lw mc9 ms9 E A C L (.ref b :: av) P9 PX9) {t : kT} {ci : Nat} {vs : List Value} {r : vw_C} (hC : C t = some (.inr (ci, vs))) (hc9 : vwCl[ci]? = some r) (hcls : r.1 = y.cls) (hb9 : L t = b) (hna : av.length = na) (hst : av.reverse ++ .ref b :: rest = st) (hcat : (rest.map fun v => v.category).sum ≤ 8) (hR : fr + 1 ≤ (kRm Γ).frames ∧ 8 + (n9 + 11) + lw ≤ (kRm Γ).locals) (hf : cells + mc9 ≤ (kRm Γ).cells ∧ slots + ms9 ≤ (kRm Γ).slots) (hdg : decode cc pc = .ok (.invokevirtual idx, 3))
    (kx : ∀ X9, PX9 X9 → ∃ (pre : List ExceptionTableEntry) (x : ExceptionTableEntry) (suf : List ExceptionTableEntry) (nm : String), tableOf hh = pre ++ x :: suf ∧ (∀ z ∈ pre, covers z pc = false ∨ (z.catchType ≠ 0 ∧ ∃ nm2 : String, Cond.classLink own z.catchType nm2 ∈ wsL_law ∧ (X9, nm2) ∈ kNcs)) ∧ covers x pc = true ∧ x.catchType ≠ 0 ∧ Cond.classLink own x.catchType nm ∈ wsL_law ∧ (X9, nm) ∈ kCas ∧ ∀ q : Nat, kW Γ E A C L (cells + mc9) (slots + ms9) x.handlerPc lo [.ref q])
    (k9 : ∀ (v : Option Value) (C' : kC) (L' : kL), P9 v C' L' → kW Γ E A C' L' (cells + mc9) (slots + ms9) (pc + 3) lo (kpush v rest)) : kW Γ E A C L cells slots pc lo st := by
  obtain ⟨p, l, e, R, s, m, args, below, meth, c, Q, nL⟩ := Γ
  obtain ⟨hx, hb, hml, hown, hts, hAm, hlk, htr⟩ := X
  intro H locs ls hp hS hl
  subst hst
  subst hb9
  refine k_contX (vx_runV ⟨hx, hb, hml, hown, hts⟩ hM (cwV na hts (hv.good hlink) rfl rfl rfl ⟨rfl, hv.2.2.2.2.1, hv.2.2.2.2.2.1, hv.2.2.2.2.2.2⟩ hR) ⟨kPc.blind, ?_, fun U hU hW => ⟨rfl, by rw [hU]; exact hp, kt_am hAm hS hU hW⟩⟩ rfl hna hl.1 rfl (lv_room hcat) hdg hf) hS (fun X9 ce q9 H1 locs1 h1 h2 h3 h4 h5 h6 => ?_) (fun v C' L' H1 locs1 h1 h2 h3 => k9 v C' L' h1 H1 locs1 ls h2 h3 hl)
  · rw [← hcls]
    exact va_recv hAm.1 (hp.P hC) (q0 := 0) hc9 rfl
  · obtain ⟨pre, x, suf, nm, e1, e2, e3, e4, e5, e6, e7⟩ := kx X9 h1
    refine vx_catch hown pre x suf (hT.trans e1) (fun z hz => ?_) e3 e4 (hts _ e5) (va_Nw.use rfl (hAm.2.2.2.2.2.2.1 _ e6)) h4 h5 h6 (e7 q9 H1 locs1 ls h2 h3 hl)
    rcases e2 z hz with h | ⟨h, nm2, g1, g2⟩
    · exact Or.inl h
    · exact Or.inr ⟨h, nm2, hts _ g1, hAm.2.2.2.2.2.2.2.2.1 _ g2⟩
end KH
theorem kMH.of {l : Launch} {y : MethodName} {cc : ByteArray} {n : Nat} {ret : Option FieldType} {hh : List (Nat × Nat × Nat × Nat)} {fr lw mc ms : Nat} {E : kE} {A : Nat → Prop} {C : kC} {L : kL} {av : List Value} {P : Option Value → kC → kL → Prop} (htr : l.stackTraces = false) (hy : plainName y.cls = true) (hlen : (lg_sl av).length ≤ n)
    (body : ∀ Γ : kG, Γ.2.1 = l → kRm Γ = ({ frames := fr, cells := mc, slots := ms, locals := lw } : Room) → kNl Γ = n → kEx Γ = tableOf hh → kX Γ E A cc y.cls → kEnd Γ E A P mc ms ret → kW Γ E A C L 0 0 0 (lv_args 0 av) []) : kMH l y cc n ret hh fr lw mc ms E A C L av P := by
  refine va_MetW (cc := cc) (maxL := n) (ret := ret) (hh := hh) hy rfl ?_
  intro p e s m args below meth c s₁ B hml hv
  obtain ⟨rfl, hp, hAm⟩ := hv
  have hts := atoms_spec (ws := .codeWith y cc n ret hh :: wsL_law) B.pre
  have h9 := body (p, l, e, _, s, m, av.toArray, below, meth, c, _, n) rfl rfl rfl (vx_table (x := y) B (hts _ List.mem_cons_self)) ⟨B.exec, B.bytes, hml, findClass_of_methodNamed B.named, fun w hw => hts w (List.mem_cons_of_mem _ hw), hAm, B.notSynchronized, htr⟩ ⟨B.returns, fun H locs g k => k⟩
  rw [lg_entry_eq]
  exact h9 s.heap [] _ hp va_S.rf (lv_entry av hlen)
theorem kout0 {f : Nat → Int64} {x : Int64} : vp_updL f (nI 0).toNatClampNeg x 0 = x := by
  rw [show (nI 0).toNatClampNeg = 0 from by decide]
  exact if_pos rfl

theorem ksh_add : kSH yL_add cL_add 5 (some .int) [(0, 10, 13, 13), (0, 10, 17, 15)] 4 := ⟨kb_79, kb_80, kb_81, (by decide +kernel), (by decide +kernel), (by decide +kernel)⟩
theorem ksh_give : kSH yL_give cL_give 5 (some .int) [(0, 10, 13, 20), (0, 10, 17, 13)] 4 := ⟨kb_197, kb_80, kb_198, (by decide +kernel), (by decide +kernel), (by decide +kernel)⟩
theorem ksh_set : kSH yL_set cL_set 6 (some .int) [(0, 12, 15, 20), (0, 12, 19, 13)] 5 := ⟨kb_237, kb_80, kb_238, (by decide +kernel), (by decide +kernel), (by decide +kernel)⟩
theorem ksh_crew : kSH yL_crew cL_crew 4 (some .int) [(0, 9, 12, 20)] 3 := ⟨kb_285, kb_80, kb_286, (by decide +kernel), (by decide +kernel), (by decide +kernel)⟩
theorem ksh_site : kSH yL_site cL_site 4 (some .int) [(0, 9, 12, 20)] 3 := ⟨kb_300, kb_80, kb_301, (by decide +kernel), (by decide +kernel), (by decide +kernel)⟩
theorem ksh_value : kSH yL_value cL_value 5 (some .int) [(0, 10, 13, 20), (0, 10, 17, 13)] 4 := ⟨kb_312, kb_80, kb_313, (by decide +kernel), (by decide +kernel), (by decide +kernel)⟩
theorem ksh_version : kSH yL_version cL_version 5 (some .int) [(0, 10, 13, 20), (0, 10, 17, 13)] 4 := ⟨kb_331, kb_80, kb_332, (by decide +kernel), (by decide +kernel), (by decide +kernel)⟩
theorem ksh_setRoom : kSH yL_setRoom cL_setRoom 5 (some .int) [(0, 10, 13, 20), (0, 10, 17, 13)] 4 := ⟨kb_342, kb_80, kb_343, (by decide +kernel), (by decide +kernel), (by decide +kernel)⟩
theorem ksh_fetch : kSH yL_fetch cL_fetch 4 (some .int) [(0, 9, 12, 20)] 3 := ⟨kb_358, kb_80, kb_359, (by decide +kernel), (by decide +kernel), (by decide +kernel)⟩
theorem ksh_held : kSH yL_held cL_held 4 (some .int) [(0, 9, 12, 20)] 3 := ⟨kb_403, kb_80, kb_404, (by decide +kernel), (by decide +kernel), (by decide +kernel)⟩
theorem ksh_holds : kSH yL_holds cL_holds 5 (some .int) [(0, 17, 20, 20)] 4 := ⟨kb_414, kb_80, kb_415, (by decide +kernel), (by decide +kernel), (by decide +kernel)⟩
theorem ksh_heldValue : kSH yL_heldValue cL_heldValue 6 (some .int) [(0, 12, 15, 20), (0, 12, 19, 13), (0, 12, 23, 15)] 5 := ⟨kb_450, kb_80, kb_451, (by decide +kernel), (by decide +kernel), (by decide +kernel)⟩
theorem ksh_change : kSH yL_change cL_change 7 (some .int) [(0, 14, 17, 20), (0, 14, 21, 13), (0, 14, 25, 15)] 6 := ⟨kb_468, kb_80, kb_469, (by decide +kernel), (by decide +kernel), (by decide +kernel)⟩
theorem ksh_make : kSH yL_make cL_make 5 (some .int) [(0, 10, 13, 20), (0, 10, 17, 13)] 4 := ⟨kb_515, kb_80, kb_516, (by decide +kernel), (by decide +kernel), (by decide +kernel)⟩
theorem ksh_numberOf : kSH yL_numberOf cL_numberOf 5 (some .int) [(0, 10, 13, 20), (0, 10, 17, 13)] 4 := ⟨kb_539, kb_80, kb_540, (by decide +kernel), (by decide +kernel), (by decide +kernel)⟩
theorem ksh_send : kSH yL_send cL_send 5 (some .int) [(0, 10, 13, 20), (0, 10, 17, 13)] 4 := ⟨kb_552, kb_80, kb_553, (by decide +kernel), (by decide +kernel), (by decide +kernel)⟩
theorem ksh_waiting : kSH yL_waiting cL_waiting 4 (some .int) [(0, 9, 12, 20)] 3 := ⟨kb_615, kb_80, kb_616, (by decide +kernel), (by decide +kernel), (by decide +kernel)⟩
theorem ksh_pile : kSH yL_pile cL_pile 4 (some .int) [(0, 9, 12, 20)] 3 := ⟨kb_626, kb_80, kb_627, (by decide +kernel), (by decide +kernel), (by decide +kernel)⟩
theorem ksh_reason : kSH yL_reason cL_reason 5 (some .int) [(0, 10, 13, 20)] 4 := ⟨kb_642, kb_80, kb_643, (by decide +kernel), (by decide +kernel), (by decide +kernel)⟩
theorem ksh_refusedValue : kSH yL_refusedValue cL_refusedValue 5 (some .int) [(0, 10, 13, 20)] 4 := ⟨kb_663, kb_80, kb_664, (by decide +kernel), (by decide +kernel), (by decide +kernel)⟩
