/-! drawn: a number out of the script, or of its own -/
def kDc (E : kE) (A : Nat → Prop) (C : kC) (L : kL) (b n : Nat) (xs : Nat → Int32) (k : Nat) : Array Value → State → Prop := fun v U => v = ([.ref b, .int (nI k)] : List Value).toArray ∧ kp E A C L U.heap ∧ kAm E A U ∧ va_X b n xs U U.heap ∧ b < U.heap.size ∧ ¬ A b
theorem kDc.blind {E : kE} {A : Nat → Prop} {C : kC} {L : kL} {b n : Nat} {xs : Nat → Int32} {k : Nat} : FrameBlind (kDc E A C L b n xs k) := fun a U g mk h => ⟨h.1, h.2.1, kAm.same (u := U) (U := U.calling g mk a) rfl rfl h.2.2.1, va_X.moved (u := U) (U := U.calling g mk a) (Vm.Alike.refl _) h.2.2.2.1, h.2.2.2.2⟩
abbrev kDp (C : kC) (L : kL) : Option Value → kC → kL → Prop := fun v C' L' => ∃ z, z < 2 ^ 31 ∧ v = some (.int (nI z)) ∧ L = L' ∧ C = C'
theorem dr_end {x : Int32} : ∃ z, z < 2 ^ 31 ∧ x &&& 2147483647 = nI z := pk_andE x 31 (by decide)
set_option maxHeartbeats 4000000 in
set_option maxRecDepth 100000 in
theorem drawn_body {Γ : kG} {E : kE} {A : Nat → Prop} {C : kC} {L : kL} {b n : Nat} {xs : Nat → Int32} {k : Nat} (hn : n < 2 ^ 31) (hk : k < 2 ^ 20) (hR : kRm Γ = ({ frames := 0, cells := 0, slots := 0, locals := 0 } : Room)) (hN : kNl Γ = 2) (X : kX Γ E A cL_drawn RL) (hE : kEnd Γ E A (kDp C L) 0 0 (some .int))
    (rd : ∀ (pc : Nat) (lo : List (Nat × Value)) (rest : List Value), k < n → decode cL_drawn pc = .ok (.iaload, 1) → kW Γ E A C L 0 0 (pc + 1) lo (.int (xs k) :: rest) → kW Γ E A C L 0 0 pc lo (.int (nI k) :: .ref b :: rest))
    (ln : ∀ (pc : Nat) (lo : List (Nat × Value)) (rest : List Value), decode cL_drawn pc = .ok (.arraylength, 1) → kW Γ E A C L 0 0 (pc + 1) lo (.int (nI n) :: rest) → kW Γ E A C L 0 0 pc lo (.ref b :: rest)) : kW Γ E A C L 0 0 0 (lv_args 0 [.ref b, .int (nI k)]) [] := by
  have key : ∀ x : Int32, kW Γ E A C L 0 0 22 [(0, .ref b), (1, .int (nI k))] [.int x] := by
    intro x
    refine k_ldc X kb_55 dL_drawn_22 ?_
    refine k_iand X dL_drawn_24 ?_
    obtain ⟨z, hz, ez⟩ := dr_end (x := x)
    refine k_rw (y := nI z) ez ?_
    exact k_iret X hE dL_drawn_25 (Nat.le_refl 0) (Nat.le_refl 0) ⟨z, hz, rfl, rfl, rfl⟩
  refine k_lo (lo' := [(0, .ref b), (1, .int (nI k))]) ⟨rfl, rfl, trivial⟩ ?_
  refine k_iload_n X dL_drawn_0 rfl rfl ?_
  refine k_aload_n X dL_drawn_1 rfl rfl ?_
  refine ln _ _ _ dL_drawn_2 ?_
  refine k_icmp_ge (tgt := 12) X dL_drawn_3 (by decide) (fun c3 => ?_) (fun c3 => ?_)
  · refine k_ldc X kb_54 dL_drawn_12 ?_
    refine k_iload_n X dL_drawn_14 rfl rfl ?_
    refine k_iconst (v := nI 3) X dL_drawn_15 (by decide) ?_
    refine k_iadd X dL_drawn_16 ?_
    refine k_imul X dL_drawn_17 ?_
    refine k_sipush (v := nI 13759) X dL_drawn_18 (by decide) ?_
    refine k_iadd X dL_drawn_21 ?_
    exact key _
  · have hlt : k < n := by
      rcases Nat.lt_or_ge k n with y | y
      · exact y
      · exact absurd (nI_le y (by omega)) c3
    refine k_aload_n X dL_drawn_6 rfl rfl ?_
    refine k_iload_n X dL_drawn_7 rfl rfl ?_
    refine rd _ _ _ hlt dL_drawn_8 ?_
    refine k_goto (tgt := 22) X dL_drawn_9 (by decide) ?_
    exact key _
set_option maxRecDepth 100000 in
theorem l_drawn {l : Launch} (htr : l.stackTraces = false) {E : kE} {A : Nat → Prop} {C : kC} {L : kL} {b n : Nat} {xs : Nat → Int32} {k : Nat} (hn : n < 2 ^ 31) (hk : k < 2 ^ 20) : Met l yL_drawn (.code yL_drawn cL_drawn 2 (some .int) :: wsL_law) ({ frames := 0, cells := 0, slots := 0, locals := 0 } : Room) (kDc E A C L b n xs k) (kQc E A (kDp C L)) 0 0 A := by
  refine Met.ofW (cc := cL_drawn) (maxL := 2) (ret := some .int) (by decide) rfl ?_
  intro p e s m args below meth c s₁ B hml hv
  obtain ⟨rfl, hp, hAm, hxx, hbl, hbA⟩ := hv
  have hts := atoms_spec (ws := .code yL_drawn cL_drawn 2 (some .int) :: wsL_law) B.pre
  have h9 := drawn_body (Γ := (p, l, e, _, s, m, ([.ref b, .int (nI k)] : List Value).toArray, below, meth, c, _, 2)) (E := E) (A := A) (C := C) (L := L) (xs := xs) hn hk rfl rfl ⟨B.exec, B.bytes, hml, findClass_of_methodNamed B.named, fun w hw => hts w (List.mem_cons_of_mem _ hw), hAm, B.notSynchronized, htr⟩ ⟨B.returns, fun H locs g k => k⟩
    (fun pc lo rest hi hdg k9 => by
      intro H locs ls hp hS hl
      refine va_sld B.exec B.bytes hxx hbl hbA hS (vp_in_nI hi hn) hdg ?_
      rw [nI_clamp (by omega)]
      exact k9 H locs ls hp hS hl)
    (fun pc lo rest hdg k9 => by
      intro H locs ls hp hS hl
      exact va_slen B.exec B.bytes hxx hbl hbA hS hdg (k9 H locs ls hp hS hl))
  rw [lg_entry_eq]
  exact h9 s.heap [] _ hp va_S.rf (lv_entry [.ref b, .int (nI k)] (Nat.le_of_ble_eq_true rfl))
/-- the script lies where it lay -/
def kSc (Γ : kG) (A : Nat → Prop) (b n : Nat) (xs : Nat → Int32) : Prop :=
  match Γ with
  | (p, l, e, R, s, m, args, below, meth, c, Q, nL) => va_X b n xs s s.heap ∧ b < s.heap.size ∧ ¬ A b
theorem k_callD {Γ : kG} {E : kE} {A : Nat → Prop} {C : kC} {L : kL} {cells slots pc : Nat} {lo : List (Nat × Value)} {rest : List Value} {b n : Nat} {xs : Nat → Int32} {k : Nat} (X : kX Γ E A cL_law RL) (hsc : kSc Γ A b n xs) (hn : n < 2 ^ 31) (hk : k < 2 ^ 20) (hcat : (rest.map fun v => v.category).sum ≤ 8) (hR : 0 + 1 ≤ (kRm Γ).frames ∧ 8 + (2 + 11) + 0 ≤ (kRm Γ).locals) (hf : cells + 0 ≤ (kRm Γ).cells ∧ slots + 0 ≤ (kRm Γ).slots) (hdg : decode cL_law pc = .ok (.invokestatic 149, 3))
    (k9 : ∀ z, z < 2 ^ 31 → kW Γ E A C L cells slots (pc + 3) lo (.int (nI z) :: rest)) : kW Γ E A C L cells slots pc lo (.int (nI k) :: .ref b :: rest) := by
  obtain ⟨p, l, e, R, s, m, args, below, meth, c, Q, nL⟩ := Γ
  obtain ⟨hx, hb, hml, hown, hts, hAm, hlk, htr⟩ := X
  obtain ⟨hxx, hbl, hbA⟩ := hsc
  intro H locs ls hp hS hl
  refine k_cont (P := kDp C L) (va_runS ⟨hx, hb, hml, hown, hts⟩ (l_drawn (C := C) (L := L) (xs := xs) htr hn hk) (va_cwS 2 hts (ks_L_drawn.good kb_50) rfl rfl rfl ⟨ks_L_drawn.2.2.2.1, ks_L_drawn.2.2.2.2.1, ks_L_drawn.2.2.2.2.2⟩ hR) ⟨kDc.blind, fun U hU hW => ⟨rfl, by rw [hU]; exact hp, kt_am hAm hS hU hW, ?_, ?_, hbA⟩⟩ rfl rfl hl.1 rfl (lv_room hcat) hdg hf) hS (fun v C' L' H1 locs1 h1 h2 h3 => ?_)
  · rw [hU]
    exact va_X.moved hW.alike (hxx.kept (hS.2.1 b hbl hbA))
  · rw [hU]
    exact Nat.lt_of_lt_of_le hbl hS.1
  · obtain ⟨z, hz, rfl, rfl, rfl⟩ := h1
    exact k9 z hz H1 locs1 ls h2 h3 hl
