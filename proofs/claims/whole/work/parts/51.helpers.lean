set_option maxHeartbeats 4000000 in
set_option maxRecDepth 100000 in
theorem h_add {l : Launch} (htr : l.stackTraces = false) {E : kE} {A : Nat → Prop} {C : kC} {L : kL} {S : kI4} {N : kN3} (hX : isX E C L S N) (hO : okX S N) {f8 : Nat → Int64} (hF : C (54, 0, 0) = some (.inl (E.2.1 2, 1, .inr (.inl f8)))) (cr si : Int32) : kMH l yL_add cL_add 5 (some .int) [(0, 10, 13, 13), (0, 10, 17, 15)] 8 193 6 110 E A C L [.ref (L (1, 0, 0)), .int cr, .int si, .ref (L (54, 0, 0))] (fun v C' L' => (∃ (rv : Int32) (C1 : kC) (f9 : Nat → Int64), (((kin cr (nI 0) (nI 3) ∧ kin si (nI 0) (nI 9)) ∧ N 1 0 0 < 40 ∧ (some (.int rv) : Option Value) = some (.int (nI (N 1 0 0))) ∧ isX E C1 L' (sAddJ S (N 1 0 0) cr si) (nAddJ N)) ∧ kFr C L C1 L' ∧ ∀ t : kT, t.1 ≤ 1 → L' t = L t) ∧ v = some (.int (nI 0)) ∧ C' = kup C1 (54, 0, 0) (some (.inl (E.2.1 2, 1, .inr (.inl f9)))) ∧ f9 0 = rv.toInt64) ∨ (v = some (.int (nI 1)) ∧ ((¬ (kin cr (nI 0) (nI 3) ∧ kin si (nI 0) (nI 9)))) ∧ L = L' ∧ C = C') ∨ (v = some (.int (nI 2)) ∧ ((kin cr (nI 0) (nI 3) ∧ kin si (nI 0) (nI 9) ∧ N 1 0 0 = 40)) ∧ L = L' ∧ C = C')) := by
  refine kMH.of htr (by decide) (Nat.le_of_ble_eq_true rfl) (fun Γ hl hR hN hT X hE => ?_)
  refine k_lo (lo' := [(0, .ref (L (1, 0, 0))), (1, .int cr), (2, .int si), (3, .ref (L (54, 0, 0)))]) ⟨rfl, rfl, rfl, rfl, trivial⟩ ?_
  refine k_aload_n X dL_add_0 rfl rfl ?_
  refine k_iconst (v := (nI 0)) X dL_add_1 (by decide) ?_
  refine k_aload_n X dL_add_2 rfl rfl ?_
  refine k_iload_n X dL_add_3 rfl rfl ?_
  refine k_iload_n X dL_add_4 rfl rfl ?_
  refine k_callVH (rest := [.int (nI 0), .ref (L (54, 0, 0))]) (hh := [(0, 10, 13, 13), (0, 10, 17, 15)]) X hT kv_X5_add kb_84 (c_add X.tr hX hO cr si) hX.1.1.1 rfl rfl rfl rfl rfl (Nat.le_of_ble_eq_true rfl) ⟨by rw [hR]; exact Nat.le_of_ble_eq_true rfl, by rw [hR]; exact Nat.le_of_ble_eq_true rfl⟩ ⟨by rw [hR]; dsimp only; omega, by rw [hR]; dsimp only; omega⟩ dL_add_5 (fun X9 hx => ?_) (fun v C9 L9 h9 => ?_)
  ·
    rcases hx with ⟨rfl, z⟩ | ⟨rfl, z⟩
    ·
      refine ⟨tableOf [], ⟨0, 10, 13, 13⟩, tableOf [(0, 10, 17, 15)], _, rfl, (fun z9 h9 => absurd h9 List.not_mem_nil), by decide, by decide, kb_82, by decide +kernel, fun q => ?_⟩
      refine k_astore X dL_add_13 (by rw [hN]; decide) ?_
      refine k_iconst (v := (nI 1)) X dL_add_15 (by decide) ?_
      exact k_iret X hE dL_add_16 (by first | omega | exact Nat.le_of_ble_eq_true rfl | (dsimp only; omega)) (by first | omega | exact Nat.le_of_ble_eq_true rfl | (dsimp only; omega)) (Or.inr (Or.inl (⟨rfl, z, rfl, rfl⟩)))
    ·
      refine ⟨tableOf [(0, 10, 13, 13)], ⟨0, 10, 17, 15⟩, tableOf [], _, rfl, (List.forall_mem_cons.mpr ⟨Or.inr ⟨by decide, _, kb_82, by decide +kernel⟩, (fun z9 h9 => absurd h9 List.not_mem_nil)⟩), by decide, by decide, kb_83, by decide +kernel, fun q => ?_⟩
      refine k_astore X dL_add_17 (by rw [hN]; decide) ?_
      refine k_iconst (v := (nI 2)) X dL_add_19 (by decide) ?_
      exact k_iret X hE dL_add_20 (by first | omega | exact Nat.le_of_ble_eq_true rfl | (dsimp only; omega)) (by first | omega | exact Nat.le_of_ble_eq_true rfl | (dsimp only; omega)) (Or.inr (Or.inr (⟨rfl, z, rfl, rfl⟩)))
  ·
    obtain ⟨rv, hv⟩ : ∃ rv, v = some (.int rv) := by
      obtain ⟨⟨_, _, e, _⟩, _, _⟩ := h9
      exact ⟨_, e⟩
    subst hv
    have e54 : C9 (54, 0, 0) = C (54, 0, 0) ∧ L9 (54, 0, 0) = L (54, 0, 0) := by
      obtain ⟨_, e1, e2⟩ := h9
      exact ⟨(e1 (54, 0, 0) (show 30 ≤ 54 by decide)).1, (e1 (54, 0, 0) (show 30 ≤ 54 by decide)).2⟩
    refine k_i2l X dL_add_8 ?_
    refine k_last (t := (54, 0, 0)) X (e54.1.trans hF) e54.2 (vp_in_nI (by decide) (by decide)) dL_add_9 ?_
    refine k_goto (tgt := 21) X dL_add_10 (by decide) ?_
    refine k_iconst (v := (nI 0)) X dL_add_21 (by decide) ?_
    exact k_iret X hE dL_add_22 (by first | omega | exact Nat.le_of_ble_eq_true rfl | (dsimp only; omega)) (by first | omega | exact Nat.le_of_ble_eq_true rfl | (dsimp only; omega)) (Or.inl (⟨rv, C9, _, h9, rfl, rfl, kout0⟩))

set_option maxHeartbeats 4000000 in
set_option maxRecDepth 100000 in
theorem h_give {l : Launch} (htr : l.stackTraces = false) {E : kE} {A : Nat → Prop} {C : kC} {L : kL} {S : kI4} {N : kN3} (hX : isX E C L S N) (hO : okX S N) {f8 : Nat → Int64} (hF : C (54, 0, 0) = some (.inl (E.2.1 2, 1, .inr (.inl f8)))) (job cr : Int32) : kMH l yL_give cL_give 5 (some .int) [(0, 10, 13, 20), (0, 10, 17, 13)] 8 128 2 12 E A C L [.ref (L (1, 0, 0)), .int job, .int cr, .ref (L (54, 0, 0))] (fun v C' L' => (∃ (rv : Int32) (C1 : kC) (f9 : Nat → Int64), ((∃ i, i < N 1 0 0 ∧ job = nI i ∧ kin cr (nI 0) (nI 3) ∧ (some (.int rv) : Option Value) = some (.int (S 2 i 0 0)) ∧ isX E C1 L' (w4 S 2 i 0 0 cr) N) ∧ L = L' ∧ kFr C L C1 L') ∧ v = some (.int (nI 0)) ∧ C' = kup C1 (54, 0, 0) (some (.inl (E.2.1 2, 1, .inr (.inl f9)))) ∧ f9 0 = rv.toInt64) ∨ (v = some (.int (nI 1)) ∧ ((¬ kix job (N 1 0 0))) ∧ L = L' ∧ C = C') ∨ (v = some (.int (nI 2)) ∧ ((kix job (N 1 0 0) ∧ ¬ (kin cr (nI 0) (nI 3)))) ∧ L = L' ∧ C = C')) := by
  refine kMH.of htr (by decide) (Nat.le_of_ble_eq_true rfl) (fun Γ hl hR hN hT X hE => ?_)
  refine k_lo (lo' := [(0, .ref (L (1, 0, 0))), (1, .int job), (2, .int cr), (3, .ref (L (54, 0, 0)))]) ⟨rfl, rfl, rfl, rfl, trivial⟩ ?_
  refine k_aload_n X dL_give_0 rfl rfl ?_
  refine k_iconst (v := (nI 0)) X dL_give_1 (by decide) ?_
  refine k_aload_n X dL_give_2 rfl rfl ?_
  refine k_iload_n X dL_give_3 rfl rfl ?_
  refine k_iload_n X dL_give_4 rfl rfl ?_
  refine k_callVH (rest := [.int (nI 0), .ref (L (54, 0, 0))]) (hh := [(0, 10, 13, 20), (0, 10, 17, 13)]) X hT kv_X5_give kb_200 (c_give X.tr hX hO job cr) hX.1.1.1 rfl rfl rfl rfl rfl (Nat.le_of_ble_eq_true rfl) ⟨by rw [hR]; exact Nat.le_of_ble_eq_true rfl, by rw [hR]; exact Nat.le_of_ble_eq_true rfl⟩ ⟨by rw [hR]; dsimp only; omega, by rw [hR]; dsimp only; omega⟩ dL_give_5 (fun X9 hx => ?_) (fun v C9 L9 h9 => ?_)
  ·
    rcases hx with ⟨rfl, z⟩ | ⟨rfl, z⟩
    ·
      refine ⟨tableOf [], ⟨0, 10, 13, 20⟩, tableOf [(0, 10, 17, 13)], _, rfl, (fun z9 h9 => absurd h9 List.not_mem_nil), by decide, by decide, kb_199, by decide +kernel, fun q => ?_⟩
      refine k_astore X dL_give_13 (by rw [hN]; decide) ?_
      refine k_iconst (v := (nI 1)) X dL_give_15 (by decide) ?_
      exact k_iret X hE dL_give_16 (by first | omega | exact Nat.le_of_ble_eq_true rfl | (dsimp only; omega)) (by first | omega | exact Nat.le_of_ble_eq_true rfl | (dsimp only; omega)) (Or.inr (Or.inl (⟨rfl, z, rfl, rfl⟩)))
    ·
      refine ⟨tableOf [(0, 10, 13, 20)], ⟨0, 10, 17, 13⟩, tableOf [], _, rfl, (List.forall_mem_cons.mpr ⟨Or.inr ⟨by decide, _, kb_199, by decide +kernel⟩, (fun z9 h9 => absurd h9 List.not_mem_nil)⟩), by decide, by decide, kb_82, by decide +kernel, fun q => ?_⟩
      refine k_astore X dL_give_17 (by rw [hN]; decide) ?_
      refine k_iconst (v := (nI 2)) X dL_give_19 (by decide) ?_
      exact k_iret X hE dL_give_20 (by first | omega | exact Nat.le_of_ble_eq_true rfl | (dsimp only; omega)) (by first | omega | exact Nat.le_of_ble_eq_true rfl | (dsimp only; omega)) (Or.inr (Or.inr (⟨rfl, z, rfl, rfl⟩)))
  ·
    obtain ⟨rv, hv⟩ : ∃ rv, v = some (.int rv) := by
      obtain ⟨⟨_, _, _, _, e, _⟩, _, _⟩ := h9
      exact ⟨_, e⟩
    subst hv
    have e54 : C9 (54, 0, 0) = C (54, 0, 0) ∧ L9 (54, 0, 0) = L (54, 0, 0) := by
      obtain ⟨_, e1, e2⟩ := h9
      exact ⟨(e2 (54, 0, 0) (show 30 ≤ 54 by decide)).1, (e2 (54, 0, 0) (show 30 ≤ 54 by decide)).2⟩
    refine k_i2l X dL_give_8 ?_
    refine k_last (t := (54, 0, 0)) X (e54.1.trans hF) e54.2 (vp_in_nI (by decide) (by decide)) dL_give_9 ?_
    refine k_goto (tgt := 21) X dL_give_10 (by decide) ?_
    refine k_iconst (v := (nI 0)) X dL_give_21 (by decide) ?_
    exact k_iret X hE dL_give_22 (by first | omega | exact Nat.le_of_ble_eq_true rfl | (dsimp only; omega)) (by first | omega | exact Nat.le_of_ble_eq_true rfl | (dsimp only; omega)) (Or.inl (⟨rv, C9, _, h9, rfl, rfl, kout0⟩))

set_option maxHeartbeats 4000000 in
set_option maxRecDepth 100000 in
theorem h_set {l : Launch} (htr : l.stackTraces = false) {E : kE} {A : Nat → Prop} {C : kC} {L : kL} {S : kI4} {N : kN3} (hX : isX E C L S N) (hO : okX S N) {f8 : Nat → Int64} (hF : C (54, 0, 0) = some (.inl (E.2.1 2, 1, .inr (.inl f8)))) (job f x : Int32) : kMH l yL_set cL_set 6 (some .int) [(0, 12, 15, 20), (0, 12, 19, 13)] 10 169 3 18 E A C L [.ref (L (1, 0, 0)), .int job, .int f, .int x, .ref (L (54, 0, 0))] (fun v C' L' => (∃ (rv : Int32) (C1 : kC) (f9 : Nat → Int64), ((∃ i, i < N 1 0 0 ∧ job = nI i ∧ (kin f (nI 0) (nI 1) ∧ kin x (nI 0) (if f = nI 0 then nI 2 else nI 10000)) ∧ (some (.int rv) : Option Value) = some (.int (if f = nI 0 then sPut S 3 i 0 f x 3 i 0 2 else sPut S 3 i 0 f x 3 i 0 3)) ∧ isX E C1 L' (sPut S 3 i 0 f x) N) ∧ L = L' ∧ kFr C L C1 L') ∧ v = some (.int (nI 0)) ∧ C' = kup C1 (54, 0, 0) (some (.inl (E.2.1 2, 1, .inr (.inl f9)))) ∧ f9 0 = rv.toInt64) ∨ (v = some (.int (nI 1)) ∧ ((¬ kix job (N 1 0 0))) ∧ L = L' ∧ C = C') ∨ (v = some (.int (nI 2)) ∧ ((kix job (N 1 0 0) ∧ ¬ (kin f (nI 0) (nI 1) ∧ kin x (nI 0) (if f = nI 0 then nI 2 else nI 10000)))) ∧ L = L' ∧ C = C')) := by
  refine kMH.of htr (by decide) (Nat.le_of_ble_eq_true rfl) (fun Γ hl hR hN hT X hE => ?_)
  refine k_lo (lo' := [(0, .ref (L (1, 0, 0))), (1, .int job), (2, .int f), (3, .int x), (4, .ref (L (54, 0, 0)))]) ⟨rfl, rfl, rfl, rfl, rfl, trivial⟩ ?_
  refine k_aload X dL_set_0 rfl ?_
  refine k_iconst (v := (nI 0)) X dL_set_2 (by decide) ?_
  refine k_aload_n X dL_set_3 rfl rfl ?_
  refine k_iload_n X dL_set_4 rfl rfl ?_
  refine k_iload_n X dL_set_5 rfl rfl ?_
  refine k_iload_n X dL_set_6 rfl rfl ?_
  refine k_callVH (rest := [.int (nI 0), .ref (L (54, 0, 0))]) (hh := [(0, 12, 15, 20), (0, 12, 19, 13)]) X hT kv_X5_set kb_239 (c_set X.tr hX hO job f x) hX.1.1.1 rfl rfl rfl rfl rfl (Nat.le_of_ble_eq_true rfl) ⟨by rw [hR]; exact Nat.le_of_ble_eq_true rfl, by rw [hR]; exact Nat.le_of_ble_eq_true rfl⟩ ⟨by rw [hR]; dsimp only; omega, by rw [hR]; dsimp only; omega⟩ dL_set_7 (fun X9 hx => ?_) (fun v C9 L9 h9 => ?_)
  ·
    rcases hx with ⟨rfl, z⟩ | ⟨rfl, z⟩
    ·
      refine ⟨tableOf [], ⟨0, 12, 15, 20⟩, tableOf [(0, 12, 19, 13)], _, rfl, (fun z9 h9 => absurd h9 List.not_mem_nil), by decide, by decide, kb_199, by decide +kernel, fun q => ?_⟩
      refine k_astore X dL_set_15 (by rw [hN]; decide) ?_
      refine k_iconst (v := (nI 1)) X dL_set_17 (by decide) ?_
      exact k_iret X hE dL_set_18 (by first | omega | exact Nat.le_of_ble_eq_true rfl | (dsimp only; omega)) (by first | omega | exact Nat.le_of_ble_eq_true rfl | (dsimp only; omega)) (Or.inr (Or.inl (⟨rfl, z, rfl, rfl⟩)))
    ·
      refine ⟨tableOf [(0, 12, 15, 20)], ⟨0, 12, 19, 13⟩, tableOf [], _, rfl, (List.forall_mem_cons.mpr ⟨Or.inr ⟨by decide, _, kb_199, by decide +kernel⟩, (fun z9 h9 => absurd h9 List.not_mem_nil)⟩), by decide, by decide, kb_82, by decide +kernel, fun q => ?_⟩
      refine k_astore X dL_set_19 (by rw [hN]; decide) ?_
      refine k_iconst (v := (nI 2)) X dL_set_21 (by decide) ?_
      exact k_iret X hE dL_set_22 (by first | omega | exact Nat.le_of_ble_eq_true rfl | (dsimp only; omega)) (by first | omega | exact Nat.le_of_ble_eq_true rfl | (dsimp only; omega)) (Or.inr (Or.inr (⟨rfl, z, rfl, rfl⟩)))
  ·
    obtain ⟨rv, hv⟩ : ∃ rv, v = some (.int rv) := by
      obtain ⟨⟨_, _, _, _, e, _⟩, _, _⟩ := h9
      exact ⟨_, e⟩
    subst hv
    have e54 : C9 (54, 0, 0) = C (54, 0, 0) ∧ L9 (54, 0, 0) = L (54, 0, 0) := by
      obtain ⟨_, e1, e2⟩ := h9
      exact ⟨(e2 (54, 0, 0) (show 30 ≤ 54 by decide)).1, (e2 (54, 0, 0) (show 30 ≤ 54 by decide)).2⟩
    refine k_i2l X dL_set_10 ?_
    refine k_last (t := (54, 0, 0)) X (e54.1.trans hF) e54.2 (vp_in_nI (by decide) (by decide)) dL_set_11 ?_
    refine k_goto (tgt := 23) X dL_set_12 (by decide) ?_
    refine k_iconst (v := (nI 0)) X dL_set_23 (by decide) ?_
    exact k_iret X hE dL_set_24 (by first | omega | exact Nat.le_of_ble_eq_true rfl | (dsimp only; omega)) (by first | omega | exact Nat.le_of_ble_eq_true rfl | (dsimp only; omega)) (Or.inl (⟨rv, C9, _, h9, rfl, rfl, kout0⟩))

set_option maxHeartbeats 4000000 in
set_option maxRecDepth 100000 in
theorem h_crew {l : Launch} (htr : l.stackTraces = false) {E : kE} {A : Nat → Prop} {C : kC} {L : kL} {S : kI4} {N : kN3} (hX : isX E C L S N) (hO : okX S N) {f8 : Nat → Int64} (hF : C (54, 0, 0) = some (.inl (E.2.1 2, 1, .inr (.inl f8)))) (job : Int32) : kMH l yL_crew cL_crew 4 (some .int) [(0, 9, 12, 20)] 8 124 1 6 E A C L [.ref (L (1, 0, 0)), .int job, .ref (L (54, 0, 0))] (fun v C' L' => (∃ (rv : Int32) (C1 : kC) (f9 : Nat → Int64), ((∃ i, i < N 1 0 0 ∧ job = nI i ∧ (some (.int rv) : Option Value) = some (.int (S 2 i 0 0))) ∧ L = L' ∧ C = C1) ∧ v = some (.int (nI 0)) ∧ C' = kup C1 (54, 0, 0) (some (.inl (E.2.1 2, 1, .inr (.inl f9)))) ∧ f9 0 = rv.toInt64) ∨ (v = some (.int (nI 1)) ∧ ((¬ kix job (N 1 0 0))) ∧ L = L' ∧ C = C')) := by
  refine kMH.of htr (by decide) (Nat.le_of_ble_eq_true rfl) (fun Γ hl hR hN hT X hE => ?_)
  refine k_lo (lo' := [(0, .ref (L (1, 0, 0))), (1, .int job), (2, .ref (L (54, 0, 0)))]) ⟨rfl, rfl, rfl, trivial⟩ ?_
  refine k_aload_n X dL_crew_0 rfl rfl ?_
  refine k_iconst (v := (nI 0)) X dL_crew_1 (by decide) ?_
  refine k_aload_n X dL_crew_2 rfl rfl ?_
  refine k_iload_n X dL_crew_3 rfl rfl ?_
  refine k_callVH (rest := [.int (nI 0), .ref (L (54, 0, 0))]) (hh := [(0, 9, 12, 20)]) X hT kv_X5_crew kb_287 (c_crew X.tr hX hO job) hX.1.1.1 rfl rfl rfl rfl rfl (Nat.le_of_ble_eq_true rfl) ⟨by rw [hR]; exact Nat.le_of_ble_eq_true rfl, by rw [hR]; exact Nat.le_of_ble_eq_true rfl⟩ ⟨by rw [hR]; dsimp only; omega, by rw [hR]; dsimp only; omega⟩ dL_crew_4 (fun X9 hx => ?_) (fun v C9 L9 h9 => ?_)
  ·
    obtain ⟨rfl, z⟩ := hx
    refine ⟨tableOf [], ⟨0, 9, 12, 20⟩, tableOf [], _, rfl, (fun z9 h9 => absurd h9 List.not_mem_nil), by decide, by decide, kb_199, by decide +kernel, fun q => ?_⟩
    refine k_astore_n X dL_crew_12 rfl (by rw [hN]; decide) ?_
    refine k_iconst (v := (nI 1)) X dL_crew_13 (by decide) ?_
    exact k_iret X hE dL_crew_14 (by first | omega | exact Nat.le_of_ble_eq_true rfl | (dsimp only; omega)) (by first | omega | exact Nat.le_of_ble_eq_true rfl | (dsimp only; omega)) (Or.inr (⟨rfl, z, rfl, rfl⟩))
  ·
    obtain ⟨rv, hv⟩ : ∃ rv, v = some (.int rv) := by
      obtain ⟨⟨_, _, _, e⟩, _, _⟩ := h9
      exact ⟨_, e⟩
    subst hv
    have e54 : C9 (54, 0, 0) = C (54, 0, 0) ∧ L9 (54, 0, 0) = L (54, 0, 0) := by
      obtain ⟨_, e1, e2⟩ := h9
      exact ⟨by rw [e2], by rw [e1]⟩
    refine k_i2l X dL_crew_7 ?_
    refine k_last (t := (54, 0, 0)) X (e54.1.trans hF) e54.2 (vp_in_nI (by decide) (by decide)) dL_crew_8 ?_
    refine k_goto (tgt := 15) X dL_crew_9 (by decide) ?_
    refine k_iconst (v := (nI 0)) X dL_crew_15 (by decide) ?_
    exact k_iret X hE dL_crew_16 (by first | omega | exact Nat.le_of_ble_eq_true rfl | (dsimp only; omega)) (by first | omega | exact Nat.le_of_ble_eq_true rfl | (dsimp only; omega)) (Or.inl (⟨rv, C9, _, h9, rfl, rfl, kout0⟩))

set_option maxHeartbeats 4000000 in
set_option maxRecDepth 100000 in
theorem h_site {l : Launch} (htr : l.stackTraces = false) {E : kE} {A : Nat → Prop} {C : kC} {L : kL} {S : kI4} {N : kN3} (hX : isX E C L S N) (hO : okX S N) {f8 : Nat → Int64} (hF : C (54, 0, 0) = some (.inl (E.2.1 2, 1, .inr (.inl f8)))) (job : Int32) : kMH l yL_site cL_site 4 (some .int) [(0, 9, 12, 20)] 8 124 1 6 E A C L [.ref (L (1, 0, 0)), .int job, .ref (L (54, 0, 0))] (fun v C' L' => (∃ (rv : Int32) (C1 : kC) (f9 : Nat → Int64), ((∃ i, i < N 1 0 0 ∧ job = nI i ∧ (some (.int rv) : Option Value) = some (.int (S 1 i 0 0))) ∧ L = L' ∧ C = C1) ∧ v = some (.int (nI 0)) ∧ C' = kup C1 (54, 0, 0) (some (.inl (E.2.1 2, 1, .inr (.inl f9)))) ∧ f9 0 = rv.toInt64) ∨ (v = some (.int (nI 1)) ∧ ((¬ kix job (N 1 0 0))) ∧ L = L' ∧ C = C')) := by
  refine kMH.of htr (by decide) (Nat.le_of_ble_eq_true rfl) (fun Γ hl hR hN hT X hE => ?_)
  refine k_lo (lo' := [(0, .ref (L (1, 0, 0))), (1, .int job), (2, .ref (L (54, 0, 0)))]) ⟨rfl, rfl, rfl, trivial⟩ ?_
  refine k_aload_n X dL_site_0 rfl rfl ?_
  refine k_iconst (v := (nI 0)) X dL_site_1 (by decide) ?_
  refine k_aload_n X dL_site_2 rfl rfl ?_
  refine k_iload_n X dL_site_3 rfl rfl ?_
  refine k_callVH (rest := [.int (nI 0), .ref (L (54, 0, 0))]) (hh := [(0, 9, 12, 20)]) X hT kv_X5_site kb_302 (c_site X.tr hX hO job) hX.1.1.1 rfl rfl rfl rfl rfl (Nat.le_of_ble_eq_true rfl) ⟨by rw [hR]; exact Nat.le_of_ble_eq_true rfl, by rw [hR]; exact Nat.le_of_ble_eq_true rfl⟩ ⟨by rw [hR]; dsimp only; omega, by rw [hR]; dsimp only; omega⟩ dL_site_4 (fun X9 hx => ?_) (fun v C9 L9 h9 => ?_)
  ·
    obtain ⟨rfl, z⟩ := hx
    refine ⟨tableOf [], ⟨0, 9, 12, 20⟩, tableOf [], _, rfl, (fun z9 h9 => absurd h9 List.not_mem_nil), by decide, by decide, kb_199, by decide +kernel, fun q => ?_⟩
    refine k_astore_n X dL_site_12 rfl (by rw [hN]; decide) ?_
    refine k_iconst (v := (nI 1)) X dL_site_13 (by decide) ?_
    exact k_iret X hE dL_site_14 (by first | omega | exact Nat.le_of_ble_eq_true rfl | (dsimp only; omega)) (by first | omega | exact Nat.le_of_ble_eq_true rfl | (dsimp only; omega)) (Or.inr (⟨rfl, z, rfl, rfl⟩))
  ·
    obtain ⟨rv, hv⟩ : ∃ rv, v = some (.int rv) := by
      obtain ⟨⟨_, _, _, e⟩, _, _⟩ := h9
      exact ⟨_, e⟩
    subst hv
    have e54 : C9 (54, 0, 0) = C (54, 0, 0) ∧ L9 (54, 0, 0) = L (54, 0, 0) := by
      obtain ⟨_, e1, e2⟩ := h9
      exact ⟨by rw [e2], by rw [e1]⟩
    refine k_i2l X dL_site_7 ?_
    refine k_last (t := (54, 0, 0)) X (e54.1.trans hF) e54.2 (vp_in_nI (by decide) (by decide)) dL_site_8 ?_
    refine k_goto (tgt := 15) X dL_site_9 (by decide) ?_
    refine k_iconst (v := (nI 0)) X dL_site_15 (by decide) ?_
    exact k_iret X hE dL_site_16 (by first | omega | exact Nat.le_of_ble_eq_true rfl | (dsimp only; omega)) (by first | omega | exact Nat.le_of_ble_eq_true rfl | (dsimp only; omega)) (Or.inl (⟨rv, C9, _, h9, rfl, rfl, kout0⟩))

set_option maxHeartbeats 4000000 in
set_option maxRecDepth 100000 in
theorem h_value {l : Launch} (htr : l.stackTraces = false) {E : kE} {A : Nat → Prop} {C : kC} {L : kL} {S : kI4} {N : kN3} (hX : isX E C L S N) (hO : okX S N) {f8 : Nat → Int64} (hF : C (54, 0, 0) = some (.inl (E.2.1 2, 1, .inr (.inl f8)))) (job f : Int32) : kMH l yL_value cL_value 5 (some .int) [(0, 10, 13, 20), (0, 10, 17, 13)] 9 147 2 12 E A C L [.ref (L (1, 0, 0)), .int job, .int f, .ref (L (54, 0, 0))] (fun v C' L' => (∃ (rv : Int32) (C1 : kC) (f9 : Nat → Int64), ((∃ i, i < N 1 0 0 ∧ job = nI i ∧ kin f (nI 0) (nI 1) ∧ (some (.int rv) : Option Value) = some (.int (if f = nI 0 then S 3 i 0 0 else S 3 i 0 1))) ∧ L = L' ∧ C = C1) ∧ v = some (.int (nI 0)) ∧ C' = kup C1 (54, 0, 0) (some (.inl (E.2.1 2, 1, .inr (.inl f9)))) ∧ f9 0 = rv.toInt64) ∨ (v = some (.int (nI 1)) ∧ ((¬ kix job (N 1 0 0))) ∧ L = L' ∧ C = C') ∨ (v = some (.int (nI 2)) ∧ ((kix job (N 1 0 0) ∧ ¬ (kin f (nI 0) (nI 1)))) ∧ L = L' ∧ C = C')) := by
  refine kMH.of htr (by decide) (Nat.le_of_ble_eq_true rfl) (fun Γ hl hR hN hT X hE => ?_)
  refine k_lo (lo' := [(0, .ref (L (1, 0, 0))), (1, .int job), (2, .int f), (3, .ref (L (54, 0, 0)))]) ⟨rfl, rfl, rfl, rfl, trivial⟩ ?_
  refine k_aload_n X dL_value_0 rfl rfl ?_
  refine k_iconst (v := (nI 0)) X dL_value_1 (by decide) ?_
  refine k_aload_n X dL_value_2 rfl rfl ?_
  refine k_iload_n X dL_value_3 rfl rfl ?_
  refine k_iload_n X dL_value_4 rfl rfl ?_
  refine k_callVH (rest := [.int (nI 0), .ref (L (54, 0, 0))]) (hh := [(0, 10, 13, 20), (0, 10, 17, 13)]) X hT kv_X5_value kb_314 (c_value X.tr hX hO job f) hX.1.1.1 rfl rfl rfl rfl rfl (Nat.le_of_ble_eq_true rfl) ⟨by rw [hR]; exact Nat.le_of_ble_eq_true rfl, by rw [hR]; exact Nat.le_of_ble_eq_true rfl⟩ ⟨by rw [hR]; dsimp only; omega, by rw [hR]; dsimp only; omega⟩ dL_value_5 (fun X9 hx => ?_) (fun v C9 L9 h9 => ?_)
  ·
    rcases hx with ⟨rfl, z⟩ | ⟨rfl, z⟩
    ·
      refine ⟨tableOf [], ⟨0, 10, 13, 20⟩, tableOf [(0, 10, 17, 13)], _, rfl, (fun z9 h9 => absurd h9 List.not_mem_nil), by decide, by decide, kb_199, by decide +kernel, fun q => ?_⟩
      refine k_astore X dL_value_13 (by rw [hN]; decide) ?_
      refine k_iconst (v := (nI 1)) X dL_value_15 (by decide) ?_
      exact k_iret X hE dL_value_16 (by first | omega | exact Nat.le_of_ble_eq_true rfl | (dsimp only; omega)) (by first | omega | exact Nat.le_of_ble_eq_true rfl | (dsimp only; omega)) (Or.inr (Or.inl (⟨rfl, z, rfl, rfl⟩)))
    ·
      refine ⟨tableOf [(0, 10, 13, 20)], ⟨0, 10, 17, 13⟩, tableOf [], _, rfl, (List.forall_mem_cons.mpr ⟨Or.inr ⟨by decide, _, kb_199, by decide +kernel⟩, (fun z9 h9 => absurd h9 List.not_mem_nil)⟩), by decide, by decide, kb_82, by decide +kernel, fun q => ?_⟩
      refine k_astore X dL_value_17 (by rw [hN]; decide) ?_
      refine k_iconst (v := (nI 2)) X dL_value_19 (by decide) ?_
      exact k_iret X hE dL_value_20 (by first | omega | exact Nat.le_of_ble_eq_true rfl | (dsimp only; omega)) (by first | omega | exact Nat.le_of_ble_eq_true rfl | (dsimp only; omega)) (Or.inr (Or.inr (⟨rfl, z, rfl, rfl⟩)))
  ·
    obtain ⟨rv, hv⟩ : ∃ rv, v = some (.int rv) := by
      obtain ⟨⟨_, _, _, _, e⟩, _, _⟩ := h9
      exact ⟨_, e⟩
    subst hv
    have e54 : C9 (54, 0, 0) = C (54, 0, 0) ∧ L9 (54, 0, 0) = L (54, 0, 0) := by
      obtain ⟨_, e1, e2⟩ := h9
      exact ⟨by rw [e2], by rw [e1]⟩
    refine k_i2l X dL_value_8 ?_
    refine k_last (t := (54, 0, 0)) X (e54.1.trans hF) e54.2 (vp_in_nI (by decide) (by decide)) dL_value_9 ?_
    refine k_goto (tgt := 21) X dL_value_10 (by decide) ?_
    refine k_iconst (v := (nI 0)) X dL_value_21 (by decide) ?_
    exact k_iret X hE dL_value_22 (by first | omega | exact Nat.le_of_ble_eq_true rfl | (dsimp only; omega)) (by first | omega | exact Nat.le_of_ble_eq_true rfl | (dsimp only; omega)) (Or.inl (⟨rv, C9, _, h9, rfl, rfl, kout0⟩))

set_option maxHeartbeats 4000000 in
set_option maxRecDepth 100000 in
theorem h_version {l : Launch} (htr : l.stackTraces = false) {E : kE} {A : Nat → Prop} {C : kC} {L : kL} {S : kI4} {N : kN3} (hX : isX E C L S N) (hO : okX S N) {f8 : Nat → Int64} (hF : C (54, 0, 0) = some (.inl (E.2.1 2, 1, .inr (.inl f8)))) (job f : Int32) : kMH l yL_version cL_version 5 (some .int) [(0, 10, 13, 20), (0, 10, 17, 13)] 9 147 2 12 E A C L [.ref (L (1, 0, 0)), .int job, .int f, .ref (L (54, 0, 0))] (fun v C' L' => (∃ (rv : Int32) (C1 : kC) (f9 : Nat → Int64), ((∃ i, i < N 1 0 0 ∧ job = nI i ∧ kin f (nI 0) (nI 1) ∧ (some (.int rv) : Option Value) = some (.int (if f = nI 0 then S 3 i 0 2 else S 3 i 0 3))) ∧ L = L' ∧ C = C1) ∧ v = some (.int (nI 0)) ∧ C' = kup C1 (54, 0, 0) (some (.inl (E.2.1 2, 1, .inr (.inl f9)))) ∧ f9 0 = rv.toInt64) ∨ (v = some (.int (nI 1)) ∧ ((¬ kix job (N 1 0 0))) ∧ L = L' ∧ C = C') ∨ (v = some (.int (nI 2)) ∧ ((kix job (N 1 0 0) ∧ ¬ (kin f (nI 0) (nI 1)))) ∧ L = L' ∧ C = C')) := by
  refine kMH.of htr (by decide) (Nat.le_of_ble_eq_true rfl) (fun Γ hl hR hN hT X hE => ?_)
  refine k_lo (lo' := [(0, .ref (L (1, 0, 0))), (1, .int job), (2, .int f), (3, .ref (L (54, 0, 0)))]) ⟨rfl, rfl, rfl, rfl, trivial⟩ ?_
  refine k_aload_n X dL_version_0 rfl rfl ?_
  refine k_iconst (v := (nI 0)) X dL_version_1 (by decide) ?_
  refine k_aload_n X dL_version_2 rfl rfl ?_
  refine k_iload_n X dL_version_3 rfl rfl ?_
  refine k_iload_n X dL_version_4 rfl rfl ?_
  refine k_callVH (rest := [.int (nI 0), .ref (L (54, 0, 0))]) (hh := [(0, 10, 13, 20), (0, 10, 17, 13)]) X hT kv_X5_version kb_333 (c_version X.tr hX hO job f) hX.1.1.1 rfl rfl rfl rfl rfl (Nat.le_of_ble_eq_true rfl) ⟨by rw [hR]; exact Nat.le_of_ble_eq_true rfl, by rw [hR]; exact Nat.le_of_ble_eq_true rfl⟩ ⟨by rw [hR]; dsimp only; omega, by rw [hR]; dsimp only; omega⟩ dL_version_5 (fun X9 hx => ?_) (fun v C9 L9 h9 => ?_)
  ·
    rcases hx with ⟨rfl, z⟩ | ⟨rfl, z⟩
    ·
      refine ⟨tableOf [], ⟨0, 10, 13, 20⟩, tableOf [(0, 10, 17, 13)], _, rfl, (fun z9 h9 => absurd h9 List.not_mem_nil), by decide, by decide, kb_199, by decide +kernel, fun q => ?_⟩
      refine k_astore X dL_version_13 (by rw [hN]; decide) ?_
      refine k_iconst (v := (nI 1)) X dL_version_15 (by decide) ?_
      exact k_iret X hE dL_version_16 (by first | omega | exact Nat.le_of_ble_eq_true rfl | (dsimp only; omega)) (by first | omega | exact Nat.le_of_ble_eq_true rfl | (dsimp only; omega)) (Or.inr (Or.inl (⟨rfl, z, rfl, rfl⟩)))
    ·
      refine ⟨tableOf [(0, 10, 13, 20)], ⟨0, 10, 17, 13⟩, tableOf [], _, rfl, (List.forall_mem_cons.mpr ⟨Or.inr ⟨by decide, _, kb_199, by decide +kernel⟩, (fun z9 h9 => absurd h9 List.not_mem_nil)⟩), by decide, by decide, kb_82, by decide +kernel, fun q => ?_⟩
      refine k_astore X dL_version_17 (by rw [hN]; decide) ?_
      refine k_iconst (v := (nI 2)) X dL_version_19 (by decide) ?_
      exact k_iret X hE dL_version_20 (by first | omega | exact Nat.le_of_ble_eq_true rfl | (dsimp only; omega)) (by first | omega | exact Nat.le_of_ble_eq_true rfl | (dsimp only; omega)) (Or.inr (Or.inr (⟨rfl, z, rfl, rfl⟩)))
  ·
    obtain ⟨rv, hv⟩ : ∃ rv, v = some (.int rv) := by
      obtain ⟨⟨_, _, _, _, e⟩, _, _⟩ := h9
      exact ⟨_, e⟩
    subst hv
    have e54 : C9 (54, 0, 0) = C (54, 0, 0) ∧ L9 (54, 0, 0) = L (54, 0, 0) := by
      obtain ⟨_, e1, e2⟩ := h9
      exact ⟨by rw [e2], by rw [e1]⟩
    refine k_i2l X dL_version_8 ?_
    refine k_last (t := (54, 0, 0)) X (e54.1.trans hF) e54.2 (vp_in_nI (by decide) (by decide)) dL_version_9 ?_
    refine k_goto (tgt := 21) X dL_version_10 (by decide) ?_
    refine k_iconst (v := (nI 0)) X dL_version_21 (by decide) ?_
    exact k_iret X hE dL_version_22 (by first | omega | exact Nat.le_of_ble_eq_true rfl | (dsimp only; omega)) (by first | omega | exact Nat.le_of_ble_eq_true rfl | (dsimp only; omega)) (Or.inl (⟨rv, C9, _, h9, rfl, rfl, kout0⟩))

set_option maxHeartbeats 4000000 in
set_option maxRecDepth 100000 in
theorem h_setRoom {l : Launch} (htr : l.stackTraces = false) {E : kE} {A : Nat → Prop} {C : kC} {L : kL} {S : kI4} {N : kN3} (hX : isX E C L S N) (hO : okX S N) {f8 : Nat → Int64} (hF : C (54, 0, 0) = some (.inl (E.2.1 2, 1, .inr (.inl f8)))) (dv ro : Int32) : kMH l yL_setRoom cL_setRoom 5 (some .int) [(0, 10, 13, 20), (0, 10, 17, 13)] 8 128 2 12 E A C L [.ref (L (1, 0, 0)), .int dv, .int ro, .ref (L (54, 0, 0))] (fun v C' L' => (∃ (rv : Int32) (C1 : kC) (f9 : Nat → Int64), ((∃ d, d < 4 ∧ dv = nI d ∧ kin ro (nI 0) (nI 40) ∧ (some (.int rv) : Option Value) = some (.int (S 4 d 0 0)) ∧ isX E C1 L' (w4 S 4 d 0 0 ro) N) ∧ L = L' ∧ kFr C L C1 L') ∧ v = some (.int (nI 0)) ∧ C' = kup C1 (54, 0, 0) (some (.inl (E.2.1 2, 1, .inr (.inl f9)))) ∧ f9 0 = rv.toInt64) ∨ (v = some (.int (nI 1)) ∧ ((¬ kix dv 4)) ∧ L = L' ∧ C = C') ∨ (v = some (.int (nI 2)) ∧ ((kix dv 4 ∧ ¬ (kin ro (nI 0) (nI 40)))) ∧ L = L' ∧ C = C')) := by
  refine kMH.of htr (by decide) (Nat.le_of_ble_eq_true rfl) (fun Γ hl hR hN hT X hE => ?_)
  refine k_lo (lo' := [(0, .ref (L (1, 0, 0))), (1, .int dv), (2, .int ro), (3, .ref (L (54, 0, 0)))]) ⟨rfl, rfl, rfl, rfl, trivial⟩ ?_
  refine k_aload_n X dL_setRoom_0 rfl rfl ?_
  refine k_iconst (v := (nI 0)) X dL_setRoom_1 (by decide) ?_
  refine k_aload_n X dL_setRoom_2 rfl rfl ?_
  refine k_iload_n X dL_setRoom_3 rfl rfl ?_
  refine k_iload_n X dL_setRoom_4 rfl rfl ?_
  refine k_callVH (rest := [.int (nI 0), .ref (L (54, 0, 0))]) (hh := [(0, 10, 13, 20), (0, 10, 17, 13)]) X hT kv_X5_setRoom kb_344 (c_setRoom X.tr hX hO dv ro) hX.1.1.1 rfl rfl rfl rfl rfl (Nat.le_of_ble_eq_true rfl) ⟨by rw [hR]; exact Nat.le_of_ble_eq_true rfl, by rw [hR]; exact Nat.le_of_ble_eq_true rfl⟩ ⟨by rw [hR]; dsimp only; omega, by rw [hR]; dsimp only; omega⟩ dL_setRoom_5 (fun X9 hx => ?_) (fun v C9 L9 h9 => ?_)
  ·
    rcases hx with ⟨rfl, z⟩ | ⟨rfl, z⟩
    ·
      refine ⟨tableOf [], ⟨0, 10, 13, 20⟩, tableOf [(0, 10, 17, 13)], _, rfl, (fun z9 h9 => absurd h9 List.not_mem_nil), by decide, by decide, kb_199, by decide +kernel, fun q => ?_⟩
      refine k_astore X dL_setRoom_13 (by rw [hN]; decide) ?_
      refine k_iconst (v := (nI 1)) X dL_setRoom_15 (by decide) ?_
      exact k_iret X hE dL_setRoom_16 (by first | omega | exact Nat.le_of_ble_eq_true rfl | (dsimp only; omega)) (by first | omega | exact Nat.le_of_ble_eq_true rfl | (dsimp only; omega)) (Or.inr (Or.inl (⟨rfl, z, rfl, rfl⟩)))
    ·
      refine ⟨tableOf [(0, 10, 13, 20)], ⟨0, 10, 17, 13⟩, tableOf [], _, rfl, (List.forall_mem_cons.mpr ⟨Or.inr ⟨by decide, _, kb_199, by decide +kernel⟩, (fun z9 h9 => absurd h9 List.not_mem_nil)⟩), by decide, by decide, kb_82, by decide +kernel, fun q => ?_⟩
      refine k_astore X dL_setRoom_17 (by rw [hN]; decide) ?_
      refine k_iconst (v := (nI 2)) X dL_setRoom_19 (by decide) ?_
      exact k_iret X hE dL_setRoom_20 (by first | omega | exact Nat.le_of_ble_eq_true rfl | (dsimp only; omega)) (by first | omega | exact Nat.le_of_ble_eq_true rfl | (dsimp only; omega)) (Or.inr (Or.inr (⟨rfl, z, rfl, rfl⟩)))
  ·
    obtain ⟨rv, hv⟩ : ∃ rv, v = some (.int rv) := by
      obtain ⟨⟨_, _, _, _, e, _⟩, _, _⟩ := h9
      exact ⟨_, e⟩
    subst hv
    have e54 : C9 (54, 0, 0) = C (54, 0, 0) ∧ L9 (54, 0, 0) = L (54, 0, 0) := by
      obtain ⟨_, e1, e2⟩ := h9
      exact ⟨(e2 (54, 0, 0) (show 30 ≤ 54 by decide)).1, (e2 (54, 0, 0) (show 30 ≤ 54 by decide)).2⟩
    refine k_i2l X dL_setRoom_8 ?_
    refine k_last (t := (54, 0, 0)) X (e54.1.trans hF) e54.2 (vp_in_nI (by decide) (by decide)) dL_setRoom_9 ?_
    refine k_goto (tgt := 21) X dL_setRoom_10 (by decide) ?_
    refine k_iconst (v := (nI 0)) X dL_setRoom_21 (by decide) ?_
    exact k_iret X hE dL_setRoom_22 (by first | omega | exact Nat.le_of_ble_eq_true rfl | (dsimp only; omega)) (by first | omega | exact Nat.le_of_ble_eq_true rfl | (dsimp only; omega)) (Or.inl (⟨rv, C9, _, h9, rfl, rfl, kout0⟩))

set_option maxHeartbeats 4000000 in
set_option maxRecDepth 100000 in
theorem h_fetch {l : Launch} (htr : l.stackTraces = false) {E : kE} {A : Nat → Prop} {C : kC} {L : kL} {S : kI4} {N : kN3} (hX : isX E C L S N) (hO : okX S N) {f8 : Nat → Int64} (hF : C (54, 0, 0) = some (.inl (E.2.1 2, 1, .inr (.inl f8)))) (dv : Int32) : kMH l yL_fetch cL_fetch 4 (some .int) [(0, 9, 12, 20)] 8 125 121 486 E A C L [.ref (L (1, 0, 0)), .int dv, .ref (L (54, 0, 0))] (fun v C' L' => (∃ (rv : Int32) (C1 : kC) (f9 : Nat → Int64), ((∃ d, d < 4 ∧ dv = nI d ∧ (some (.int rv) : Option Value) = some (.int ((xFetch (S, N) d).1 6 d 0 0 + (xFetch (S, N) d).1 7 d 0 0)) ∧ isX E C1 L' (xFetch (S, N) d).1 (xFetch (S, N) d).2) ∧ kFr C L C1 L' ∧ ∀ t : kT, t.1 ≠ 16 → L' t = L t) ∧ v = some (.int (nI 0)) ∧ C' = kup C1 (54, 0, 0) (some (.inl (E.2.1 2, 1, .inr (.inl f9)))) ∧ f9 0 = rv.toInt64) ∨ (v = some (.int (nI 1)) ∧ ((¬ kix dv 4)) ∧ L = L' ∧ C = C')) := by
  refine kMH.of htr (by decide) (Nat.le_of_ble_eq_true rfl) (fun Γ hl hR hN hT X hE => ?_)
  refine k_lo (lo' := [(0, .ref (L (1, 0, 0))), (1, .int dv), (2, .ref (L (54, 0, 0)))]) ⟨rfl, rfl, rfl, trivial⟩ ?_
  refine k_aload_n X dL_fetch_0 rfl rfl ?_
  refine k_iconst (v := (nI 0)) X dL_fetch_1 (by decide) ?_
  refine k_aload_n X dL_fetch_2 rfl rfl ?_
  refine k_iload_n X dL_fetch_3 rfl rfl ?_
  refine k_callVH (rest := [.int (nI 0), .ref (L (54, 0, 0))]) (hh := [(0, 9, 12, 20)]) X hT kv_X5_fetch kb_360 (c_fetch X.tr hX hO dv) hX.1.1.1 rfl rfl rfl rfl rfl (Nat.le_of_ble_eq_true rfl) ⟨by rw [hR]; exact Nat.le_of_ble_eq_true rfl, by rw [hR]; exact Nat.le_of_ble_eq_true rfl⟩ ⟨by rw [hR]; dsimp only; omega, by rw [hR]; dsimp only; omega⟩ dL_fetch_4 (fun X9 hx => ?_) (fun v C9 L9 h9 => ?_)
  ·
    obtain ⟨rfl, z⟩ := hx
    refine ⟨tableOf [], ⟨0, 9, 12, 20⟩, tableOf [], _, rfl, (fun z9 h9 => absurd h9 List.not_mem_nil), by decide, by decide, kb_199, by decide +kernel, fun q => ?_⟩
    refine k_astore_n X dL_fetch_12 rfl (by rw [hN]; decide) ?_
    refine k_iconst (v := (nI 1)) X dL_fetch_13 (by decide) ?_
    exact k_iret X hE dL_fetch_14 (by first | omega | exact Nat.le_of_ble_eq_true rfl | (dsimp only; omega)) (by first | omega | exact Nat.le_of_ble_eq_true rfl | (dsimp only; omega)) (Or.inr (⟨rfl, z, rfl, rfl⟩))
  ·
    obtain ⟨rv, hv⟩ : ∃ rv, v = some (.int rv) := by
      obtain ⟨⟨_, _, _, e, _⟩, _, _⟩ := h9
      exact ⟨_, e⟩
    subst hv
    have e54 : C9 (54, 0, 0) = C (54, 0, 0) ∧ L9 (54, 0, 0) = L (54, 0, 0) := by
      obtain ⟨_, e1, e2⟩ := h9
      exact ⟨(e1 (54, 0, 0) (show 30 ≤ 54 by decide)).1, (e1 (54, 0, 0) (show 30 ≤ 54 by decide)).2⟩
    refine k_i2l X dL_fetch_7 ?_
    refine k_last (t := (54, 0, 0)) X (e54.1.trans hF) e54.2 (vp_in_nI (by decide) (by decide)) dL_fetch_8 ?_
    refine k_goto (tgt := 15) X dL_fetch_9 (by decide) ?_
    refine k_iconst (v := (nI 0)) X dL_fetch_15 (by decide) ?_
    exact k_iret X hE dL_fetch_16 (by first | omega | exact Nat.le_of_ble_eq_true rfl | (dsimp only; omega)) (by first | omega | exact Nat.le_of_ble_eq_true rfl | (dsimp only; omega)) (Or.inl (⟨rv, C9, _, h9, rfl, rfl, kout0⟩))

set_option maxHeartbeats 4000000 in
set_option maxRecDepth 100000 in
theorem h_held {l : Launch} (htr : l.stackTraces = false) {E : kE} {A : Nat → Prop} {C : kC} {L : kL} {S : kI4} {N : kN3} (hX : isX E C L S N) (hO : okX S N) {f8 : Nat → Int64} (hF : C (54, 0, 0) = some (.inl (E.2.1 2, 1, .inr (.inl f8)))) (dv : Int32) : kMH l yL_held cL_held 4 (some .int) [(0, 9, 12, 20)] 8 124 1 6 E A C L [.ref (L (1, 0, 0)), .int dv, .ref (L (54, 0, 0))] (fun v C' L' => (∃ (rv : Int32) (C1 : kC) (f9 : Nat → Int64), ((∃ d, d < 4 ∧ dv = nI d ∧ (some (.int rv) : Option Value) = some (.int (S 6 d 0 0 + S 7 d 0 0))) ∧ L = L' ∧ C = C1) ∧ v = some (.int (nI 0)) ∧ C' = kup C1 (54, 0, 0) (some (.inl (E.2.1 2, 1, .inr (.inl f9)))) ∧ f9 0 = rv.toInt64) ∨ (v = some (.int (nI 1)) ∧ ((¬ kix dv 4)) ∧ L = L' ∧ C = C')) := by
  refine kMH.of htr (by decide) (Nat.le_of_ble_eq_true rfl) (fun Γ hl hR hN hT X hE => ?_)
  refine k_lo (lo' := [(0, .ref (L (1, 0, 0))), (1, .int dv), (2, .ref (L (54, 0, 0)))]) ⟨rfl, rfl, rfl, trivial⟩ ?_
  refine k_aload_n X dL_held_0 rfl rfl ?_
  refine k_iconst (v := (nI 0)) X dL_held_1 (by decide) ?_
  refine k_aload_n X dL_held_2 rfl rfl ?_
  refine k_iload_n X dL_held_3 rfl rfl ?_
  refine k_callVH (rest := [.int (nI 0), .ref (L (54, 0, 0))]) (hh := [(0, 9, 12, 20)]) X hT kv_X5_held kb_405 (c_held X.tr hX hO dv) hX.1.1.1 rfl rfl rfl rfl rfl (Nat.le_of_ble_eq_true rfl) ⟨by rw [hR]; exact Nat.le_of_ble_eq_true rfl, by rw [hR]; exact Nat.le_of_ble_eq_true rfl⟩ ⟨by rw [hR]; dsimp only; omega, by rw [hR]; dsimp only; omega⟩ dL_held_4 (fun X9 hx => ?_) (fun v C9 L9 h9 => ?_)
  ·
    obtain ⟨rfl, z⟩ := hx
    refine ⟨tableOf [], ⟨0, 9, 12, 20⟩, tableOf [], _, rfl, (fun z9 h9 => absurd h9 List.not_mem_nil), by decide, by decide, kb_199, by decide +kernel, fun q => ?_⟩
    refine k_astore_n X dL_held_12 rfl (by rw [hN]; decide) ?_
    refine k_iconst (v := (nI 1)) X dL_held_13 (by decide) ?_
    exact k_iret X hE dL_held_14 (by first | omega | exact Nat.le_of_ble_eq_true rfl | (dsimp only; omega)) (by first | omega | exact Nat.le_of_ble_eq_true rfl | (dsimp only; omega)) (Or.inr (⟨rfl, z, rfl, rfl⟩))
  ·
    obtain ⟨rv, hv⟩ : ∃ rv, v = some (.int rv) := by
      obtain ⟨⟨_, _, _, e⟩, _, _⟩ := h9
      exact ⟨_, e⟩
    subst hv
    have e54 : C9 (54, 0, 0) = C (54, 0, 0) ∧ L9 (54, 0, 0) = L (54, 0, 0) := by
      obtain ⟨_, e1, e2⟩ := h9
      exact ⟨by rw [e2], by rw [e1]⟩
    refine k_i2l X dL_held_7 ?_
    refine k_last (t := (54, 0, 0)) X (e54.1.trans hF) e54.2 (vp_in_nI (by decide) (by decide)) dL_held_8 ?_
    refine k_goto (tgt := 15) X dL_held_9 (by decide) ?_
    refine k_iconst (v := (nI 0)) X dL_held_15 (by decide) ?_
    exact k_iret X hE dL_held_16 (by first | omega | exact Nat.le_of_ble_eq_true rfl | (dsimp only; omega)) (by first | omega | exact Nat.le_of_ble_eq_true rfl | (dsimp only; omega)) (Or.inl (⟨rv, C9, _, h9, rfl, rfl, kout0⟩))

set_option maxHeartbeats 4000000 in
set_option maxRecDepth 100000 in
theorem h_holds {l : Launch} (htr : l.stackTraces = false) {E : kE} {A : Nat → Prop} {C : kC} {L : kL} {S : kI4} {N : kN3} (hX : isX E C L S N) (hO : okX S N) {f8 : Nat → Int64} (hF : C (54, 0, 0) = some (.inl (E.2.1 2, 1, .inr (.inl f8)))) (dv job : Int32) : kMH l yL_holds cL_holds 5 (some .int) [(0, 17, 20, 20)] 8 130 1 6 E A C L [.ref (L (1, 0, 0)), .int dv, .int job, .ref (L (54, 0, 0))] (fun v C' L' => (∃ (rv : Int32) (C1 : kC) (f9 : Nat → Int64), ((∃ d, d < 4 ∧ dv = nI d ∧ ∃ o, kHf S N d job o ∧ (some (.int rv) : Option Value) = some (.int (match o with | none => nI 0 | some _ => nI 1))) ∧ L = L' ∧ C = C1) ∧ v = some (.int (nI 0)) ∧ C' = kup C1 (54, 0, 0) (some (.inl (E.2.1 2, 1, .inr (.inl f9)))) ∧ (rv = 0 → f9 0 = 0) ∧ (¬ rv = 0 → f9 0 = 1)) ∨ (v = some (.int (nI 1)) ∧ ((¬ kix dv 4)) ∧ L = L' ∧ C = C')) := by
  refine kMH.of htr (by decide) (Nat.le_of_ble_eq_true rfl) (fun Γ hl hR hN hT X hE => ?_)
  refine k_lo (lo' := [(0, .ref (L (1, 0, 0))), (1, .int dv), (2, .int job), (3, .ref (L (54, 0, 0)))]) ⟨rfl, rfl, rfl, rfl, trivial⟩ ?_
  refine k_aload_n X dL_holds_0 rfl rfl ?_
  refine k_iconst (v := (nI 0)) X dL_holds_1 (by decide) ?_
  refine k_aload_n X dL_holds_2 rfl rfl ?_
  refine k_iload_n X dL_holds_3 rfl rfl ?_
  refine k_iload_n X dL_holds_4 rfl rfl ?_
  refine k_callVH (rest := [.int (nI 0), .ref (L (54, 0, 0))]) (hh := [(0, 17, 20, 20)]) X hT kv_X5_holds kb_416 (c_holds X.tr hX hO dv job) hX.1.1.1 rfl rfl rfl rfl rfl (Nat.le_of_ble_eq_true rfl) ⟨by rw [hR]; exact Nat.le_of_ble_eq_true rfl, by rw [hR]; exact Nat.le_of_ble_eq_true rfl⟩ ⟨by rw [hR]; dsimp only; omega, by rw [hR]; dsimp only; omega⟩ dL_holds_5 (fun X9 hx => ?_) (fun v C9 L9 h9 => ?_)
  ·
    obtain ⟨rfl, z⟩ := hx
    refine ⟨tableOf [], ⟨0, 17, 20, 20⟩, tableOf [], _, rfl, (fun z9 h9 => absurd h9 List.not_mem_nil), by decide, by decide, kb_199, by decide +kernel, fun q => ?_⟩
    refine k_astore X dL_holds_20 (by rw [hN]; decide) ?_
    refine k_iconst (v := (nI 1)) X dL_holds_22 (by decide) ?_
    exact k_iret X hE dL_holds_23 (by first | omega | exact Nat.le_of_ble_eq_true rfl | (dsimp only; omega)) (by first | omega | exact Nat.le_of_ble_eq_true rfl | (dsimp only; omega)) (Or.inr (⟨rfl, z, rfl, rfl⟩))
  ·
    obtain ⟨rv, hv⟩ : ∃ rv, v = some (.int rv) := by
      obtain ⟨⟨_, _, _, _, _, e⟩, _, _⟩ := h9
      exact ⟨_, e⟩
    subst hv
    have e54 : C9 (54, 0, 0) = C (54, 0, 0) ∧ L9 (54, 0, 0) = L (54, 0, 0) := by
      obtain ⟨_, e1, e2⟩ := h9
      exact ⟨by rw [e2], by rw [e1]⟩
    refine k_if_eq (tgt := 15) X dL_holds_8 (by decide) (fun c8 => ?_) (fun c8 => ?_)
    ·
      refine k_lconst (v := 0) X dL_holds_15 (by decide) ?_
      refine k_last (t := (54, 0, 0)) X (e54.1.trans hF) e54.2 (vp_in_nI (by decide) (by decide)) dL_holds_16 ?_
      refine k_goto (tgt := 24) X dL_holds_17 (by decide) ?_
      refine k_iconst (v := (nI 0)) X dL_holds_24 (by decide) ?_
      exact k_iret X hE dL_holds_25 (by first | omega | exact Nat.le_of_ble_eq_true rfl | (dsimp only; omega)) (by first | omega | exact Nat.le_of_ble_eq_true rfl | (dsimp only; omega)) (Or.inl (⟨rv, C9, _, h9, rfl, rfl, ⟨fun _ => kout0, fun z => absurd c8 z⟩⟩))
    ·
      refine k_lconst (v := 1) X dL_holds_11 (by decide) ?_
      refine k_goto (tgt := 16) X dL_holds_12 (by decide) ?_
      refine k_last (t := (54, 0, 0)) X (e54.1.trans hF) e54.2 (vp_in_nI (by decide) (by decide)) dL_holds_16 ?_
      refine k_goto (tgt := 24) X dL_holds_17 (by decide) ?_
      refine k_iconst (v := (nI 0)) X dL_holds_24 (by decide) ?_
      exact k_iret X hE dL_holds_25 (by first | omega | exact Nat.le_of_ble_eq_true rfl | (dsimp only; omega)) (by first | omega | exact Nat.le_of_ble_eq_true rfl | (dsimp only; omega)) (Or.inl (⟨rv, C9, _, h9, rfl, rfl, ⟨fun z => absurd z c8, fun _ => kout0⟩⟩))

set_option maxHeartbeats 4000000 in
set_option maxRecDepth 100000 in
theorem h_heldValue {l : Launch} (htr : l.stackTraces = false) {E : kE} {A : Nat → Prop} {C : kC} {L : kL} {S : kI4} {N : kN3} (hX : isX E C L S N) (hO : okX S N) {f8 : Nat → Int64} (hF : C (54, 0, 0) = some (.inl (E.2.1 2, 1, .inr (.inl f8)))) (dv job f : Int32) : kMH l yL_heldValue cL_heldValue 6 (some .int) [(0, 12, 15, 20), (0, 12, 19, 13), (0, 12, 23, 15)] 9 154 3 18 E A C L [.ref (L (1, 0, 0)), .int dv, .int job, .int f, .ref (L (54, 0, 0))] (fun v C' L' => (∃ (rv : Int32) (C1 : kC) (f9 : Nat → Int64), ((∃ d, d < 4 ∧ dv = nI d ∧ kin f (nI 0) (nI 1) ∧ ∃ ff fS kk, kHf S N d job (some (ff, d, kk)) ∧ kFh N d ff fS kk ∧ (some (.int rv) : Option Value) = some (.int (if f = nI 0 then S fS d kk 0 else S fS d kk 1))) ∧ L = L' ∧ C = C1) ∧ v = some (.int (nI 0)) ∧ C' = kup C1 (54, 0, 0) (some (.inl (E.2.1 2, 1, .inr (.inl f9)))) ∧ f9 0 = rv.toInt64) ∨ (v = some (.int (nI 1)) ∧ ((¬ kix dv 4)) ∧ L = L' ∧ C = C') ∨ (v = some (.int (nI 2)) ∧ ((kix dv 4 ∧ ¬ (kin f (nI 0) (nI 1)))) ∧ L = L' ∧ C = C') ∨ (v = some (.int (nI 3)) ∧ ((∃ d, d < 4 ∧ dv = nI d ∧ (kin f (nI 0) (nI 1)) ∧ kHf S N d job none)) ∧ L = L' ∧ C = C')) := by
  refine kMH.of htr (by decide) (Nat.le_of_ble_eq_true rfl) (fun Γ hl hR hN hT X hE => ?_)
  refine k_lo (lo' := [(0, .ref (L (1, 0, 0))), (1, .int dv), (2, .int job), (3, .int f), (4, .ref (L (54, 0, 0)))]) ⟨rfl, rfl, rfl, rfl, rfl, trivial⟩ ?_
  refine k_aload X dL_heldValue_0 rfl ?_
  refine k_iconst (v := (nI 0)) X dL_heldValue_2 (by decide) ?_
  refine k_aload_n X dL_heldValue_3 rfl rfl ?_
  refine k_iload_n X dL_heldValue_4 rfl rfl ?_
  refine k_iload_n X dL_heldValue_5 rfl rfl ?_
  refine k_iload_n X dL_heldValue_6 rfl rfl ?_
  refine k_callVH (rest := [.int (nI 0), .ref (L (54, 0, 0))]) (hh := [(0, 12, 15, 20), (0, 12, 19, 13), (0, 12, 23, 15)]) X hT kv_X5_heldValue kb_452 (c_heldValue X.tr hX hO dv job f) hX.1.1.1 rfl rfl rfl rfl rfl (Nat.le_of_ble_eq_true rfl) ⟨by rw [hR]; exact Nat.le_of_ble_eq_true rfl, by rw [hR]; exact Nat.le_of_ble_eq_true rfl⟩ ⟨by rw [hR]; dsimp only; omega, by rw [hR]; dsimp only; omega⟩ dL_heldValue_7 (fun X9 hx => ?_) (fun v C9 L9 h9 => ?_)
  ·
    rcases hx with ⟨rfl, z⟩ | ⟨rfl, z⟩ | ⟨rfl, z⟩
    ·
      refine ⟨tableOf [], ⟨0, 12, 15, 20⟩, tableOf [(0, 12, 19, 13), (0, 12, 23, 15)], _, rfl, (fun z9 h9 => absurd h9 List.not_mem_nil), by decide, by decide, kb_199, by decide +kernel, fun q => ?_⟩
      refine k_astore X dL_heldValue_15 (by rw [hN]; decide) ?_
      refine k_iconst (v := (nI 1)) X dL_heldValue_17 (by decide) ?_
      exact k_iret X hE dL_heldValue_18 (by first | omega | exact Nat.le_of_ble_eq_true rfl | (dsimp only; omega)) (by first | omega | exact Nat.le_of_ble_eq_true rfl | (dsimp only; omega)) (Or.inr (Or.inl (⟨rfl, z, rfl, rfl⟩)))
    ·
      refine ⟨tableOf [(0, 12, 15, 20)], ⟨0, 12, 19, 13⟩, tableOf [(0, 12, 23, 15)], _, rfl, (List.forall_mem_cons.mpr ⟨Or.inr ⟨by decide, _, kb_199, by decide +kernel⟩, (fun z9 h9 => absurd h9 List.not_mem_nil)⟩), by decide, by decide, kb_82, by decide +kernel, fun q => ?_⟩
      refine k_astore X dL_heldValue_19 (by rw [hN]; decide) ?_
      refine k_iconst (v := (nI 2)) X dL_heldValue_21 (by decide) ?_
      exact k_iret X hE dL_heldValue_22 (by first | omega | exact Nat.le_of_ble_eq_true rfl | (dsimp only; omega)) (by first | omega | exact Nat.le_of_ble_eq_true rfl | (dsimp only; omega)) (Or.inr (Or.inr (Or.inl (⟨rfl, z, rfl, rfl⟩))))
    ·
      refine ⟨tableOf [(0, 12, 15, 20), (0, 12, 19, 13)], ⟨0, 12, 23, 15⟩, tableOf [], _, rfl, (List.forall_mem_cons.mpr ⟨Or.inr ⟨by decide, _, kb_199, by decide +kernel⟩, (List.forall_mem_cons.mpr ⟨Or.inr ⟨by decide, _, kb_82, by decide +kernel⟩, (fun z9 h9 => absurd h9 List.not_mem_nil)⟩)⟩), by decide, by decide, kb_83, by decide +kernel, fun q => ?_⟩
      refine k_astore X dL_heldValue_23 (by rw [hN]; decide) ?_
      refine k_iconst (v := (nI 3)) X dL_heldValue_25 (by decide) ?_
      exact k_iret X hE dL_heldValue_26 (by first | omega | exact Nat.le_of_ble_eq_true rfl | (dsimp only; omega)) (by first | omega | exact Nat.le_of_ble_eq_true rfl | (dsimp only; omega)) (Or.inr (Or.inr (Or.inr (⟨rfl, z, rfl, rfl⟩))))
  ·
    obtain ⟨rv, hv⟩ : ∃ rv, v = some (.int rv) := by
      obtain ⟨⟨_, _, _, _, _, _, _, _, _, e⟩, _, _⟩ := h9
      exact ⟨_, e⟩
    subst hv
    have e54 : C9 (54, 0, 0) = C (54, 0, 0) ∧ L9 (54, 0, 0) = L (54, 0, 0) := by
      obtain ⟨_, e1, e2⟩ := h9
      exact ⟨by rw [e2], by rw [e1]⟩
    refine k_i2l X dL_heldValue_10 ?_
    refine k_last (t := (54, 0, 0)) X (e54.1.trans hF) e54.2 (vp_in_nI (by decide) (by decide)) dL_heldValue_11 ?_
    refine k_goto (tgt := 27) X dL_heldValue_12 (by decide) ?_
    refine k_iconst (v := (nI 0)) X dL_heldValue_27 (by decide) ?_
    exact k_iret X hE dL_heldValue_28 (by first | omega | exact Nat.le_of_ble_eq_true rfl | (dsimp only; omega)) (by first | omega | exact Nat.le_of_ble_eq_true rfl | (dsimp only; omega)) (Or.inl (⟨rv, C9, _, h9, rfl, rfl, kout0⟩))

set_option maxHeartbeats 4000000 in
set_option maxRecDepth 100000 in
theorem h_change {l : Launch} (htr : l.stackTraces = false) {E : kE} {A : Nat → Prop} {C : kC} {L : kL} {S : kI4} {N : kN3} (hX : isX E C L S N) (hO : okX S N) {f8 : Nat → Int64} (hF : C (54, 0, 0) = some (.inl (E.2.1 2, 1, .inr (.inl f8)))) (h512 : ∀ d, d < 4 → N 3 d 0 < 512) (dv job f x : Int32) : kMH l yL_change cL_change 7 (some .int) [(0, 14, 17, 20), (0, 14, 21, 13), (0, 14, 25, 15)] 10 221 6 830 E A C L [.ref (L (1, 0, 0)), .int dv, .int job, .int f, .int x, .ref (L (54, 0, 0))] (fun v C' L' => (∃ (rv : Int32) (C1 : kC) (f9 : Nat → Int64), ((∃ d, d < 4 ∧ dv = nI d ∧ (kin f (nI 0) (nI 1) ∧ kin x (nI 0) (if f = nI 0 then nI 2 else nI 10000)) ∧ ∃ ff fS kk, kHf S N d job (some (ff, d, kk)) ∧ kFh N d ff fS kk ∧ (some (.int rv) : Option Value) = some (.int (nI (N 3 d 0 + 1 - N 4 d 0))) ∧ isX E C1 L' (sPut (sAct S d (N 3 d 0) job f x (if f = nI 0 then S fS d kk 2 else S fS d kk 3) (-1)) fS d kk f x) (w3 N 3 d 0 (N 3 d 0 + 1))) ∧ kFr C L C1 L' ∧ ∀ t : kT, t.1 ≤ 1 → L' t = L t) ∧ v = some (.int (nI 0)) ∧ C' = kup C1 (54, 0, 0) (some (.inl (E.2.1 2, 1, .inr (.inl f9)))) ∧ f9 0 = rv.toInt64) ∨ (v = some (.int (nI 1)) ∧ ((¬ kix dv 4)) ∧ L = L' ∧ C = C') ∨ (v = some (.int (nI 2)) ∧ ((kix dv 4 ∧ ¬ (kin f (nI 0) (nI 1) ∧ kin x (nI 0) (if f = nI 0 then nI 2 else nI 10000)))) ∧ L = L' ∧ C = C') ∨ (v = some (.int (nI 3)) ∧ ((∃ d, d < 4 ∧ dv = nI d ∧ (kin f (nI 0) (nI 1) ∧ kin x (nI 0) (if f = nI 0 then nI 2 else nI 10000)) ∧ kHf S N d job none)) ∧ L = L' ∧ C = C')) := by
  refine kMH.of htr (by decide) (Nat.le_of_ble_eq_true rfl) (fun Γ hl hR hN hT X hE => ?_)
  refine k_lo (lo' := [(0, .ref (L (1, 0, 0))), (1, .int dv), (2, .int job), (3, .int f), (4, .int x), (5, .ref (L (54, 0, 0)))]) ⟨rfl, rfl, rfl, rfl, rfl, rfl, trivial⟩ ?_
  refine k_aload X dL_change_0 rfl ?_
  refine k_iconst (v := (nI 0)) X dL_change_2 (by decide) ?_
  refine k_aload_n X dL_change_3 rfl rfl ?_
  refine k_iload_n X dL_change_4 rfl rfl ?_
  refine k_iload_n X dL_change_5 rfl rfl ?_
  refine k_iload_n X dL_change_6 rfl rfl ?_
  refine k_iload X dL_change_7 rfl ?_
  refine k_callVH (rest := [.int (nI 0), .ref (L (54, 0, 0))]) (hh := [(0, 14, 17, 20), (0, 14, 21, 13), (0, 14, 25, 15)]) X hT kv_X5_change kb_470 (c_change X.tr hX hO h512 dv job f x) hX.1.1.1 rfl rfl rfl rfl rfl (Nat.le_of_ble_eq_true rfl) ⟨by rw [hR]; exact Nat.le_of_ble_eq_true rfl, by rw [hR]; exact Nat.le_of_ble_eq_true rfl⟩ ⟨by rw [hR]; dsimp only; omega, by rw [hR]; dsimp only; omega⟩ dL_change_9 (fun X9 hx => ?_) (fun v C9 L9 h9 => ?_)
  ·
    rcases hx with ⟨rfl, z⟩ | ⟨rfl, z⟩ | ⟨rfl, z⟩
    ·
      refine ⟨tableOf [], ⟨0, 14, 17, 20⟩, tableOf [(0, 14, 21, 13), (0, 14, 25, 15)], _, rfl, (fun z9 h9 => absurd h9 List.not_mem_nil), by decide, by decide, kb_199, by decide +kernel, fun q => ?_⟩
      refine k_astore X dL_change_17 (by rw [hN]; decide) ?_
      refine k_iconst (v := (nI 1)) X dL_change_19 (by decide) ?_
      exact k_iret X hE dL_change_20 (by first | omega | exact Nat.le_of_ble_eq_true rfl | (dsimp only; omega)) (by first | omega | exact Nat.le_of_ble_eq_true rfl | (dsimp only; omega)) (Or.inr (Or.inl (⟨rfl, z, rfl, rfl⟩)))
    ·
      refine ⟨tableOf [(0, 14, 17, 20)], ⟨0, 14, 21, 13⟩, tableOf [(0, 14, 25, 15)], _, rfl, (List.forall_mem_cons.mpr ⟨Or.inr ⟨by decide, _, kb_199, by decide +kernel⟩, (fun z9 h9 => absurd h9 List.not_mem_nil)⟩), by decide, by decide, kb_82, by decide +kernel, fun q => ?_⟩
      refine k_astore X dL_change_21 (by rw [hN]; decide) ?_
      refine k_iconst (v := (nI 2)) X dL_change_23 (by decide) ?_
      exact k_iret X hE dL_change_24 (by first | omega | exact Nat.le_of_ble_eq_true rfl | (dsimp only; omega)) (by first | omega | exact Nat.le_of_ble_eq_true rfl | (dsimp only; omega)) (Or.inr (Or.inr (Or.inl (⟨rfl, z, rfl, rfl⟩))))
    ·
      refine ⟨tableOf [(0, 14, 17, 20), (0, 14, 21, 13)], ⟨0, 14, 25, 15⟩, tableOf [], _, rfl, (List.forall_mem_cons.mpr ⟨Or.inr ⟨by decide, _, kb_199, by decide +kernel⟩, (List.forall_mem_cons.mpr ⟨Or.inr ⟨by decide, _, kb_82, by decide +kernel⟩, (fun z9 h9 => absurd h9 List.not_mem_nil)⟩)⟩), by decide, by decide, kb_83, by decide +kernel, fun q => ?_⟩
      refine k_astore X dL_change_25 (by rw [hN]; decide) ?_
      refine k_iconst (v := (nI 3)) X dL_change_27 (by decide) ?_
      exact k_iret X hE dL_change_28 (by first | omega | exact Nat.le_of_ble_eq_true rfl | (dsimp only; omega)) (by first | omega | exact Nat.le_of_ble_eq_true rfl | (dsimp only; omega)) (Or.inr (Or.inr (Or.inr (⟨rfl, z, rfl, rfl⟩))))
  ·
    obtain ⟨rv, hv⟩ : ∃ rv, v = some (.int rv) := by
      obtain ⟨⟨_, _, _, _, _, _, _, _, _, e, _⟩, _, _⟩ := h9
      exact ⟨_, e⟩
    subst hv
    have e54 : C9 (54, 0, 0) = C (54, 0, 0) ∧ L9 (54, 0, 0) = L (54, 0, 0) := by
      obtain ⟨_, e1, e2⟩ := h9
      exact ⟨(e1 (54, 0, 0) (show 30 ≤ 54 by decide)).1, (e1 (54, 0, 0) (show 30 ≤ 54 by decide)).2⟩
    refine k_i2l X dL_change_12 ?_
    refine k_last (t := (54, 0, 0)) X (e54.1.trans hF) e54.2 (vp_in_nI (by decide) (by decide)) dL_change_13 ?_
    refine k_goto (tgt := 29) X dL_change_14 (by decide) ?_
    refine k_iconst (v := (nI 0)) X dL_change_29 (by decide) ?_
    exact k_iret X hE dL_change_30 (by first | omega | exact Nat.le_of_ble_eq_true rfl | (dsimp only; omega)) (by first | omega | exact Nat.le_of_ble_eq_true rfl | (dsimp only; omega)) (Or.inl (⟨rv, C9, _, h9, rfl, rfl, kout0⟩))

set_option maxHeartbeats 4000000 in
set_option maxRecDepth 100000 in
theorem h_make {l : Launch} (htr : l.stackTraces = false) {E : kE} {A : Nat → Prop} {C : kC} {L : kL} {S : kI4} {N : kN3} (hX : isX E C L S N) (hO : okX S N) {f8 : Nat → Int64} (hF : C (54, 0, 0) = some (.inl (E.2.1 2, 1, .inr (.inl f8)))) (h512 : ∀ d, d < 4 → N 2 d 0 < 512 ∧ N 3 d 0 < 512) (dv x : Int32) : kMH l yL_make cL_make 5 (some .int) [(0, 10, 13, 20), (0, 10, 17, 13)] 9 216 7 1620 E A C L [.ref (L (1, 0, 0)), .int dv, .int x, .ref (L (54, 0, 0))] (fun v C' L' => (∃ (rv : Int32) (C1 : kC) (f9 : Nat → Int64), ((∃ d, d < 4 ∧ dv = nI d ∧ kin x (nI 0) (nI 9) ∧ (some (.int rv) : Option Value) = some (.int (nI (1000 + N 2 d 0))) ∧ isX E C1 L' (sMake S N d x) (nMake N d)) ∧ kFr C L C1 L' ∧ ∀ t : kT, t.1 ≤ 1 → L' t = L t) ∧ v = some (.int (nI 0)) ∧ C' = kup C1 (54, 0, 0) (some (.inl (E.2.1 2, 1, .inr (.inl f9)))) ∧ f9 0 = rv.toInt64) ∨ (v = some (.int (nI 1)) ∧ ((¬ kix dv 4)) ∧ L = L' ∧ C = C') ∨ (v = some (.int (nI 2)) ∧ ((kix dv 4 ∧ ¬ (kin x (nI 0) (nI 9)))) ∧ L = L' ∧ C = C')) := by
  refine kMH.of htr (by decide) (Nat.le_of_ble_eq_true rfl) (fun Γ hl hR hN hT X hE => ?_)
  refine k_lo (lo' := [(0, .ref (L (1, 0, 0))), (1, .int dv), (2, .int x), (3, .ref (L (54, 0, 0)))]) ⟨rfl, rfl, rfl, rfl, trivial⟩ ?_
  refine k_aload_n X dL_make_0 rfl rfl ?_
  refine k_iconst (v := (nI 0)) X dL_make_1 (by decide) ?_
  refine k_aload_n X dL_make_2 rfl rfl ?_
  refine k_iload_n X dL_make_3 rfl rfl ?_
  refine k_iload_n X dL_make_4 rfl rfl ?_
  refine k_callVH (rest := [.int (nI 0), .ref (L (54, 0, 0))]) (hh := [(0, 10, 13, 20), (0, 10, 17, 13)]) X hT kv_X5_make kb_517 (c_make X.tr hX hO h512 dv x) hX.1.1.1 rfl rfl rfl rfl rfl (Nat.le_of_ble_eq_true rfl) ⟨by rw [hR]; exact Nat.le_of_ble_eq_true rfl, by rw [hR]; exact Nat.le_of_ble_eq_true rfl⟩ ⟨by rw [hR]; dsimp only; omega, by rw [hR]; dsimp only; omega⟩ dL_make_5 (fun X9 hx => ?_) (fun v C9 L9 h9 => ?_)
  ·
    rcases hx with ⟨rfl, z⟩ | ⟨rfl, z⟩
    ·
      refine ⟨tableOf [], ⟨0, 10, 13, 20⟩, tableOf [(0, 10, 17, 13)], _, rfl, (fun z9 h9 => absurd h9 List.not_mem_nil), by decide, by decide, kb_199, by decide +kernel, fun q => ?_⟩
      refine k_astore X dL_make_13 (by rw [hN]; decide) ?_
      refine k_iconst (v := (nI 1)) X dL_make_15 (by decide) ?_
      exact k_iret X hE dL_make_16 (by first | omega | exact Nat.le_of_ble_eq_true rfl | (dsimp only; omega)) (by first | omega | exact Nat.le_of_ble_eq_true rfl | (dsimp only; omega)) (Or.inr (Or.inl (⟨rfl, z, rfl, rfl⟩)))
    ·
      refine ⟨tableOf [(0, 10, 13, 20)], ⟨0, 10, 17, 13⟩, tableOf [], _, rfl, (List.forall_mem_cons.mpr ⟨Or.inr ⟨by decide, _, kb_199, by decide +kernel⟩, (fun z9 h9 => absurd h9 List.not_mem_nil)⟩), by decide, by decide, kb_82, by decide +kernel, fun q => ?_⟩
      refine k_astore X dL_make_17 (by rw [hN]; decide) ?_
      refine k_iconst (v := (nI 2)) X dL_make_19 (by decide) ?_
      exact k_iret X hE dL_make_20 (by first | omega | exact Nat.le_of_ble_eq_true rfl | (dsimp only; omega)) (by first | omega | exact Nat.le_of_ble_eq_true rfl | (dsimp only; omega)) (Or.inr (Or.inr (⟨rfl, z, rfl, rfl⟩)))
  ·
    obtain ⟨rv, hv⟩ : ∃ rv, v = some (.int rv) := by
      obtain ⟨⟨_, _, _, _, e, _⟩, _, _⟩ := h9
      exact ⟨_, e⟩
    subst hv
    have e54 : C9 (54, 0, 0) = C (54, 0, 0) ∧ L9 (54, 0, 0) = L (54, 0, 0) := by
      obtain ⟨_, e1, e2⟩ := h9
      exact ⟨(e1 (54, 0, 0) (show 30 ≤ 54 by decide)).1, (e1 (54, 0, 0) (show 30 ≤ 54 by decide)).2⟩
    refine k_i2l X dL_make_8 ?_
    refine k_last (t := (54, 0, 0)) X (e54.1.trans hF) e54.2 (vp_in_nI (by decide) (by decide)) dL_make_9 ?_
    refine k_goto (tgt := 21) X dL_make_10 (by decide) ?_
    refine k_iconst (v := (nI 0)) X dL_make_21 (by decide) ?_
    exact k_iret X hE dL_make_22 (by first | omega | exact Nat.le_of_ble_eq_true rfl | (dsimp only; omega)) (by first | omega | exact Nat.le_of_ble_eq_true rfl | (dsimp only; omega)) (Or.inl (⟨rv, C9, _, h9, rfl, rfl, kout0⟩))

set_option maxHeartbeats 4000000 in
set_option maxRecDepth 100000 in
theorem h_numberOf {l : Launch} (htr : l.stackTraces = false) {E : kE} {A : Nat → Prop} {C : kC} {L : kL} {S : kI4} {N : kN3} (hX : isX E C L S N) (hO : okX S N) {f8 : Nat → Int64} (hF : C (54, 0, 0) = some (.inl (E.2.1 2, 1, .inr (.inl f8)))) (dv own : Int32) : kMH l yL_numberOf cL_numberOf 5 (some .int) [(0, 10, 13, 20), (0, 10, 17, 13)] 8 126 2 12 E A C L [.ref (L (1, 0, 0)), .int dv, .int own, .ref (L (54, 0, 0))] (fun v C' L' => (∃ (rv : Int32) (C1 : kC) (f9 : Nat → Int64), ((∃ d, d < 4 ∧ dv = nI d ∧ ∃ k, k < N 2 d 0 ∧ own = nI (1000 + k) ∧ (some (.int rv) : Option Value) = some (.int (S 9 d k 0))) ∧ L = L' ∧ C = C1) ∧ v = some (.int (nI 0)) ∧ C' = kup C1 (54, 0, 0) (some (.inl (E.2.1 2, 1, .inr (.inl f9)))) ∧ f9 0 = rv.toInt64) ∨ (v = some (.int (nI 1)) ∧ ((¬ kix dv 4)) ∧ L = L' ∧ C = C') ∨ (v = some (.int (nI 2)) ∧ ((∃ d, d < 4 ∧ dv = nI d ∧ ∀ k, k < N 2 d 0 → own ≠ nI (1000 + k))) ∧ L = L' ∧ C = C')) := by
  refine kMH.of htr (by decide) (Nat.le_of_ble_eq_true rfl) (fun Γ hl hR hN hT X hE => ?_)
  refine k_lo (lo' := [(0, .ref (L (1, 0, 0))), (1, .int dv), (2, .int own), (3, .ref (L (54, 0, 0)))]) ⟨rfl, rfl, rfl, rfl, trivial⟩ ?_
  refine k_aload_n X dL_numberOf_0 rfl rfl ?_
  refine k_iconst (v := (nI 0)) X dL_numberOf_1 (by decide) ?_
  refine k_aload_n X dL_numberOf_2 rfl rfl ?_
  refine k_iload_n X dL_numberOf_3 rfl rfl ?_
  refine k_iload_n X dL_numberOf_4 rfl rfl ?_
  refine k_callVH (rest := [.int (nI 0), .ref (L (54, 0, 0))]) (hh := [(0, 10, 13, 20), (0, 10, 17, 13)]) X hT kv_X5_numberOf kb_541 (c_numberOf X.tr hX hO dv own) hX.1.1.1 rfl rfl rfl rfl rfl (Nat.le_of_ble_eq_true rfl) ⟨by rw [hR]; exact Nat.le_of_ble_eq_true rfl, by rw [hR]; exact Nat.le_of_ble_eq_true rfl⟩ ⟨by rw [hR]; dsimp only; omega, by rw [hR]; dsimp only; omega⟩ dL_numberOf_5 (fun X9 hx => ?_) (fun v C9 L9 h9 => ?_)
  ·
    rcases hx with ⟨rfl, z⟩ | ⟨rfl, z⟩
    ·
      refine ⟨tableOf [], ⟨0, 10, 13, 20⟩, tableOf [(0, 10, 17, 13)], _, rfl, (fun z9 h9 => absurd h9 List.not_mem_nil), by decide, by decide, kb_199, by decide +kernel, fun q => ?_⟩
      refine k_astore X dL_numberOf_13 (by rw [hN]; decide) ?_
      refine k_iconst (v := (nI 1)) X dL_numberOf_15 (by decide) ?_
      exact k_iret X hE dL_numberOf_16 (by first | omega | exact Nat.le_of_ble_eq_true rfl | (dsimp only; omega)) (by first | omega | exact Nat.le_of_ble_eq_true rfl | (dsimp only; omega)) (Or.inr (Or.inl (⟨rfl, z, rfl, rfl⟩)))
    ·
      refine ⟨tableOf [(0, 10, 13, 20)], ⟨0, 10, 17, 13⟩, tableOf [], _, rfl, (List.forall_mem_cons.mpr ⟨Or.inr ⟨by decide, _, kb_199, by decide +kernel⟩, (fun z9 h9 => absurd h9 List.not_mem_nil)⟩), by decide, by decide, kb_82, by decide +kernel, fun q => ?_⟩
      refine k_astore X dL_numberOf_17 (by rw [hN]; decide) ?_
      refine k_iconst (v := (nI 2)) X dL_numberOf_19 (by decide) ?_
      exact k_iret X hE dL_numberOf_20 (by first | omega | exact Nat.le_of_ble_eq_true rfl | (dsimp only; omega)) (by first | omega | exact Nat.le_of_ble_eq_true rfl | (dsimp only; omega)) (Or.inr (Or.inr (⟨rfl, z, rfl, rfl⟩)))
  ·
    obtain ⟨rv, hv⟩ : ∃ rv, v = some (.int rv) := by
      obtain ⟨⟨_, _, _, _, _, _, e⟩, _, _⟩ := h9
      exact ⟨_, e⟩
    subst hv
    have e54 : C9 (54, 0, 0) = C (54, 0, 0) ∧ L9 (54, 0, 0) = L (54, 0, 0) := by
      obtain ⟨_, e1, e2⟩ := h9
      exact ⟨by rw [e2], by rw [e1]⟩
    refine k_i2l X dL_numberOf_8 ?_
    refine k_last (t := (54, 0, 0)) X (e54.1.trans hF) e54.2 (vp_in_nI (by decide) (by decide)) dL_numberOf_9 ?_
    refine k_goto (tgt := 21) X dL_numberOf_10 (by decide) ?_
    refine k_iconst (v := (nI 0)) X dL_numberOf_21 (by decide) ?_
    exact k_iret X hE dL_numberOf_22 (by first | omega | exact Nat.le_of_ble_eq_true rfl | (dsimp only; omega)) (by first | omega | exact Nat.le_of_ble_eq_true rfl | (dsimp only; omega)) (Or.inl (⟨rv, C9, _, h9, rfl, rfl, kout0⟩))

set_option maxHeartbeats 4000000 in
set_option maxRecDepth 100000 in
theorem h_send {l : Launch} (htr : l.stackTraces = false) {E : kE} {A : Nat → Prop} {C : kC} {L : kL} {S : kI4} {N : kN3} (hX : isX E C L S N) (hO : okX S N) {f8 : Nat → Int64} (hF : C (54, 0, 0) = some (.inl (E.2.1 2, 1, .inr (.inl f8)))) (h54 : ∀ d, d < 4 → N 5 d 0 ≤ N 4 d 0) (dv most : Int32) (m0 : Nat) (hm0 : ∀ d mo, d < 4 → dv = nI d → mo ≤ 100 → most = nI mo → min mo (N 3 d 0 - N 4 d 0) ≤ m0) : kMH l yL_send cL_send 5 (some .int) [(0, 10, 13, 20), (0, 10, 17, 13)] 10 245 (2 + 6 * m0) (12 + 900 * m0) E A C L [.ref (L (1, 0, 0)), .int dv, .int most, .ref (L (54, 0, 0))] (fun v C' L' => (∃ (rv : Int32) (C1 : kC) (f9 : Nat → Int64), ((∃ d, d < 4 ∧ dv = nI d ∧ ∃ mo, 1 ≤ mo ∧ mo ≤ 100 ∧ most = nI mo ∧ ∃ c S1 N1, xSnd S N d (min mo (N 3 d 0 - N 4 d 0)) c S1 N1 ∧ (some (.int rv) : Option Value) = some (.int (nI c)) ∧ isX E C1 L' (w4 S1 12 0 0 0 (S1 12 0 0 0 + nI c)) N1) ∧ kFr C L C1 L' ∧ ∀ t : kT, t.1 ≤ 1 → L' t = L t) ∧ v = some (.int (nI 0)) ∧ C' = kup C1 (54, 0, 0) (some (.inl (E.2.1 2, 1, .inr (.inl f9)))) ∧ f9 0 = rv.toInt64) ∨ (v = some (.int (nI 1)) ∧ ((¬ kix dv 4)) ∧ L = L' ∧ C = C') ∨ (v = some (.int (nI 2)) ∧ ((kix dv 4 ∧ ¬ (kin most (nI 1) (nI 100)))) ∧ L = L' ∧ C = C')) := by
  refine kMH.of htr (by decide) (Nat.le_of_ble_eq_true rfl) (fun Γ hl hR hN hT X hE => ?_)
  refine k_lo (lo' := [(0, .ref (L (1, 0, 0))), (1, .int dv), (2, .int most), (3, .ref (L (54, 0, 0)))]) ⟨rfl, rfl, rfl, rfl, trivial⟩ ?_
  refine k_aload_n X dL_send_0 rfl rfl ?_
  refine k_iconst (v := (nI 0)) X dL_send_1 (by decide) ?_
  refine k_aload_n X dL_send_2 rfl rfl ?_
  refine k_iload_n X dL_send_3 rfl rfl ?_
  refine k_iload_n X dL_send_4 rfl rfl ?_
  refine k_callVH (rest := [.int (nI 0), .ref (L (54, 0, 0))]) (hh := [(0, 10, 13, 20), (0, 10, 17, 13)]) X hT kv_X5_send kb_554 (c_send X.tr hX hO h54 dv most m0 hm0) hX.1.1.1 rfl rfl rfl rfl rfl (Nat.le_of_ble_eq_true rfl) ⟨by rw [hR]; exact Nat.le_of_ble_eq_true rfl, by rw [hR]; exact Nat.le_of_ble_eq_true rfl⟩ ⟨by rw [hR]; dsimp only; omega, by rw [hR]; dsimp only; omega⟩ dL_send_5 (fun X9 hx => ?_) (fun v C9 L9 h9 => ?_)
  ·
    rcases hx with ⟨rfl, z⟩ | ⟨rfl, z⟩
    ·
      refine ⟨tableOf [], ⟨0, 10, 13, 20⟩, tableOf [(0, 10, 17, 13)], _, rfl, (fun z9 h9 => absurd h9 List.not_mem_nil), by decide, by decide, kb_199, by decide +kernel, fun q => ?_⟩
      refine k_astore X dL_send_13 (by rw [hN]; decide) ?_
      refine k_iconst (v := (nI 1)) X dL_send_15 (by decide) ?_
      exact k_iret X hE dL_send_16 (by first | omega | exact Nat.le_of_ble_eq_true rfl | (dsimp only; omega)) (by first | omega | exact Nat.le_of_ble_eq_true rfl | (dsimp only; omega)) (Or.inr (Or.inl (⟨rfl, z, rfl, rfl⟩)))
    ·
      refine ⟨tableOf [(0, 10, 13, 20)], ⟨0, 10, 17, 13⟩, tableOf [], _, rfl, (List.forall_mem_cons.mpr ⟨Or.inr ⟨by decide, _, kb_199, by decide +kernel⟩, (fun z9 h9 => absurd h9 List.not_mem_nil)⟩), by decide, by decide, kb_82, by decide +kernel, fun q => ?_⟩
      refine k_astore X dL_send_17 (by rw [hN]; decide) ?_
      refine k_iconst (v := (nI 2)) X dL_send_19 (by decide) ?_
      exact k_iret X hE dL_send_20 (by first | omega | exact Nat.le_of_ble_eq_true rfl | (dsimp only; omega)) (by first | omega | exact Nat.le_of_ble_eq_true rfl | (dsimp only; omega)) (Or.inr (Or.inr (⟨rfl, z, rfl, rfl⟩)))
  ·
    obtain ⟨rv, hv⟩ : ∃ rv, v = some (.int rv) := by
      obtain ⟨⟨_, _, _, _, _, _, _, _, _, _, _, e, _⟩, _, _⟩ := h9
      exact ⟨_, e⟩
    subst hv
    have e54 : C9 (54, 0, 0) = C (54, 0, 0) ∧ L9 (54, 0, 0) = L (54, 0, 0) := by
      obtain ⟨_, e1, e2⟩ := h9
      exact ⟨(e1 (54, 0, 0) (show 30 ≤ 54 by decide)).1, (e1 (54, 0, 0) (show 30 ≤ 54 by decide)).2⟩
    refine k_i2l X dL_send_8 ?_
    refine k_last (t := (54, 0, 0)) X (e54.1.trans hF) e54.2 (vp_in_nI (by decide) (by decide)) dL_send_9 ?_
    refine k_goto (tgt := 21) X dL_send_10 (by decide) ?_
    refine k_iconst (v := (nI 0)) X dL_send_21 (by decide) ?_
    exact k_iret X hE dL_send_22 (by first | omega | exact Nat.le_of_ble_eq_true rfl | (dsimp only; omega)) (by first | omega | exact Nat.le_of_ble_eq_true rfl | (dsimp only; omega)) (Or.inl (⟨rv, C9, _, h9, rfl, rfl, kout0⟩))

set_option maxHeartbeats 4000000 in
set_option maxRecDepth 100000 in
theorem h_waiting {l : Launch} (htr : l.stackTraces = false) {E : kE} {A : Nat → Prop} {C : kC} {L : kL} {S : kI4} {N : kN3} (hX : isX E C L S N) (hO : okX S N) {f8 : Nat → Int64} (hF : C (54, 0, 0) = some (.inl (E.2.1 2, 1, .inr (.inl f8)))) (dv : Int32) : kMH l yL_waiting cL_waiting 4 (some .int) [(0, 9, 12, 20)] 8 124 1 6 E A C L [.ref (L (1, 0, 0)), .int dv, .ref (L (54, 0, 0))] (fun v C' L' => (∃ (rv : Int32) (C1 : kC) (f9 : Nat → Int64), ((∃ d, d < 4 ∧ dv = nI d ∧ (some (.int rv) : Option Value) = some (.int (nI (N 3 d 0 - N 4 d 0)))) ∧ L = L' ∧ C = C1) ∧ v = some (.int (nI 0)) ∧ C' = kup C1 (54, 0, 0) (some (.inl (E.2.1 2, 1, .inr (.inl f9)))) ∧ f9 0 = rv.toInt64) ∨ (v = some (.int (nI 1)) ∧ ((¬ kix dv 4)) ∧ L = L' ∧ C = C')) := by
  refine kMH.of htr (by decide) (Nat.le_of_ble_eq_true rfl) (fun Γ hl hR hN hT X hE => ?_)
  refine k_lo (lo' := [(0, .ref (L (1, 0, 0))), (1, .int dv), (2, .ref (L (54, 0, 0)))]) ⟨rfl, rfl, rfl, trivial⟩ ?_
  refine k_aload_n X dL_waiting_0 rfl rfl ?_
  refine k_iconst (v := (nI 0)) X dL_waiting_1 (by decide) ?_
  refine k_aload_n X dL_waiting_2 rfl rfl ?_
  refine k_iload_n X dL_waiting_3 rfl rfl ?_
  refine k_callVH (rest := [.int (nI 0), .ref (L (54, 0, 0))]) (hh := [(0, 9, 12, 20)]) X hT kv_X5_waiting kb_617 (c_waiting X.tr hX hO dv) hX.1.1.1 rfl rfl rfl rfl rfl (Nat.le_of_ble_eq_true rfl) ⟨by rw [hR]; exact Nat.le_of_ble_eq_true rfl, by rw [hR]; exact Nat.le_of_ble_eq_true rfl⟩ ⟨by rw [hR]; dsimp only; omega, by rw [hR]; dsimp only; omega⟩ dL_waiting_4 (fun X9 hx => ?_) (fun v C9 L9 h9 => ?_)
  ·
    obtain ⟨rfl, z⟩ := hx
    refine ⟨tableOf [], ⟨0, 9, 12, 20⟩, tableOf [], _, rfl, (fun z9 h9 => absurd h9 List.not_mem_nil), by decide, by decide, kb_199, by decide +kernel, fun q => ?_⟩
    refine k_astore_n X dL_waiting_12 rfl (by rw [hN]; decide) ?_
    refine k_iconst (v := (nI 1)) X dL_waiting_13 (by decide) ?_
    exact k_iret X hE dL_waiting_14 (by first | omega | exact Nat.le_of_ble_eq_true rfl | (dsimp only; omega)) (by first | omega | exact Nat.le_of_ble_eq_true rfl | (dsimp only; omega)) (Or.inr (⟨rfl, z, rfl, rfl⟩))
  ·
    obtain ⟨rv, hv⟩ : ∃ rv, v = some (.int rv) := by
      obtain ⟨⟨_, _, _, e⟩, _, _⟩ := h9
      exact ⟨_, e⟩
    subst hv
    have e54 : C9 (54, 0, 0) = C (54, 0, 0) ∧ L9 (54, 0, 0) = L (54, 0, 0) := by
      obtain ⟨_, e1, e2⟩ := h9
      exact ⟨by rw [e2], by rw [e1]⟩
    refine k_i2l X dL_waiting_7 ?_
    refine k_last (t := (54, 0, 0)) X (e54.1.trans hF) e54.2 (vp_in_nI (by decide) (by decide)) dL_waiting_8 ?_
    refine k_goto (tgt := 15) X dL_waiting_9 (by decide) ?_
    refine k_iconst (v := (nI 0)) X dL_waiting_15 (by decide) ?_
    exact k_iret X hE dL_waiting_16 (by first | omega | exact Nat.le_of_ble_eq_true rfl | (dsimp only; omega)) (by first | omega | exact Nat.le_of_ble_eq_true rfl | (dsimp only; omega)) (Or.inl (⟨rv, C9, _, h9, rfl, rfl, kout0⟩))

set_option maxHeartbeats 4000000 in
set_option maxRecDepth 100000 in
theorem h_pile {l : Launch} (htr : l.stackTraces = false) {E : kE} {A : Nat → Prop} {C : kC} {L : kL} {S : kI4} {N : kN3} (hX : isX E C L S N) (hO : okX S N) {f8 : Nat → Int64} (hF : C (54, 0, 0) = some (.inl (E.2.1 2, 1, .inr (.inl f8)))) (dv : Int32) : kMH l yL_pile cL_pile 4 (some .int) [(0, 9, 12, 20)] 8 124 1 6 E A C L [.ref (L (1, 0, 0)), .int dv, .ref (L (54, 0, 0))] (fun v C' L' => (∃ (rv : Int32) (C1 : kC) (f9 : Nat → Int64), ((∃ d, d < 4 ∧ dv = nI d ∧ (some (.int rv) : Option Value) = some (.int (nI (N 5 d 0)))) ∧ L = L' ∧ C = C1) ∧ v = some (.int (nI 0)) ∧ C' = kup C1 (54, 0, 0) (some (.inl (E.2.1 2, 1, .inr (.inl f9)))) ∧ f9 0 = rv.toInt64) ∨ (v = some (.int (nI 1)) ∧ ((¬ kix dv 4)) ∧ L = L' ∧ C = C')) := by
  refine kMH.of htr (by decide) (Nat.le_of_ble_eq_true rfl) (fun Γ hl hR hN hT X hE => ?_)
  refine k_lo (lo' := [(0, .ref (L (1, 0, 0))), (1, .int dv), (2, .ref (L (54, 0, 0)))]) ⟨rfl, rfl, rfl, trivial⟩ ?_
  refine k_aload_n X dL_pile_0 rfl rfl ?_
  refine k_iconst (v := (nI 0)) X dL_pile_1 (by decide) ?_
  refine k_aload_n X dL_pile_2 rfl rfl ?_
  refine k_iload_n X dL_pile_3 rfl rfl ?_
  refine k_callVH (rest := [.int (nI 0), .ref (L (54, 0, 0))]) (hh := [(0, 9, 12, 20)]) X hT kv_X5_pile kb_628 (c_pile X.tr hX hO dv) hX.1.1.1 rfl rfl rfl rfl rfl (Nat.le_of_ble_eq_true rfl) ⟨by rw [hR]; exact Nat.le_of_ble_eq_true rfl, by rw [hR]; exact Nat.le_of_ble_eq_true rfl⟩ ⟨by rw [hR]; dsimp only; omega, by rw [hR]; dsimp only; omega⟩ dL_pile_4 (fun X9 hx => ?_) (fun v C9 L9 h9 => ?_)
  ·
    obtain ⟨rfl, z⟩ := hx
    refine ⟨tableOf [], ⟨0, 9, 12, 20⟩, tableOf [], _, rfl, (fun z9 h9 => absurd h9 List.not_mem_nil), by decide, by decide, kb_199, by decide +kernel, fun q => ?_⟩
    refine k_astore_n X dL_pile_12 rfl (by rw [hN]; decide) ?_
    refine k_iconst (v := (nI 1)) X dL_pile_13 (by decide) ?_
    exact k_iret X hE dL_pile_14 (by first | omega | exact Nat.le_of_ble_eq_true rfl | (dsimp only; omega)) (by first | omega | exact Nat.le_of_ble_eq_true rfl | (dsimp only; omega)) (Or.inr (⟨rfl, z, rfl, rfl⟩))
  ·
    obtain ⟨rv, hv⟩ : ∃ rv, v = some (.int rv) := by
      obtain ⟨⟨_, _, _, e⟩, _, _⟩ := h9
      exact ⟨_, e⟩
    subst hv
    have e54 : C9 (54, 0, 0) = C (54, 0, 0) ∧ L9 (54, 0, 0) = L (54, 0, 0) := by
      obtain ⟨_, e1, e2⟩ := h9
      exact ⟨by rw [e2], by rw [e1]⟩
    refine k_i2l X dL_pile_7 ?_
    refine k_last (t := (54, 0, 0)) X (e54.1.trans hF) e54.2 (vp_in_nI (by decide) (by decide)) dL_pile_8 ?_
    refine k_goto (tgt := 15) X dL_pile_9 (by decide) ?_
    refine k_iconst (v := (nI 0)) X dL_pile_15 (by decide) ?_
    exact k_iret X hE dL_pile_16 (by first | omega | exact Nat.le_of_ble_eq_true rfl | (dsimp only; omega)) (by first | omega | exact Nat.le_of_ble_eq_true rfl | (dsimp only; omega)) (Or.inl (⟨rv, C9, _, h9, rfl, rfl, kout0⟩))

set_option maxHeartbeats 4000000 in
set_option maxRecDepth 100000 in
theorem h_reason {l : Launch} (htr : l.stackTraces = false) {E : kE} {A : Nat → Prop} {C : kC} {L : kL} {S : kI4} {N : kN3} (hX : isX E C L S N) (hO : okX S N) {f8 : Nat → Int64} (hF : C (54, 0, 0) = some (.inl (E.2.1 2, 1, .inr (.inl f8)))) (dv pl : Int32) : kMH l yL_reason cL_reason 5 (some .int) [(0, 10, 13, 20)] 9 148 2 12 E A C L [.ref (L (1, 0, 0)), .int dv, .int pl, .ref (L (54, 0, 0))] (fun v C' L' => (∃ (rv : Int32) (C1 : kC) (f9 : Nat → Int64), ((∃ d, d < 4 ∧ dv = nI d ∧ ∃ i, i < N 5 d 0 ∧ pl = nI i ∧ (some (.int rv) : Option Value) = some (.int (S 11 d (N 6 d i) 4))) ∧ L = L' ∧ C = C1) ∧ v = some (.int (nI 0)) ∧ C' = kup C1 (54, 0, 0) (some (.inl (E.2.1 2, 1, .inr (.inl f9)))) ∧ f9 0 = rv.toInt64) ∨ (v = some (.int (nI 1)) ∧ ((¬ kix dv 4) ∨ (∃ d, d < 4 ∧ dv = nI d ∧ ¬ kix pl (N 5 d 0))) ∧ L = L' ∧ C = C')) := by
  refine kMH.of htr (by decide) (Nat.le_of_ble_eq_true rfl) (fun Γ hl hR hN hT X hE => ?_)
  refine k_lo (lo' := [(0, .ref (L (1, 0, 0))), (1, .int dv), (2, .int pl), (3, .ref (L (54, 0, 0)))]) ⟨rfl, rfl, rfl, rfl, trivial⟩ ?_
  refine k_aload_n X dL_reason_0 rfl rfl ?_
  refine k_iconst (v := (nI 0)) X dL_reason_1 (by decide) ?_
  refine k_aload_n X dL_reason_2 rfl rfl ?_
  refine k_iload_n X dL_reason_3 rfl rfl ?_
  refine k_iload_n X dL_reason_4 rfl rfl ?_
  refine k_callVH (rest := [.int (nI 0), .ref (L (54, 0, 0))]) (hh := [(0, 10, 13, 20)]) X hT kv_X5_reason kb_644 (c_reason X.tr hX hO dv pl) hX.1.1.1 rfl rfl rfl rfl rfl (Nat.le_of_ble_eq_true rfl) ⟨by rw [hR]; exact Nat.le_of_ble_eq_true rfl, by rw [hR]; exact Nat.le_of_ble_eq_true rfl⟩ ⟨by rw [hR]; dsimp only; omega, by rw [hR]; dsimp only; omega⟩ dL_reason_5 (fun X9 hx => ?_) (fun v C9 L9 h9 => ?_)
  ·
    rcases hx with ⟨rfl, z⟩ | ⟨rfl, z⟩
    ·
      refine ⟨tableOf [], ⟨0, 10, 13, 20⟩, tableOf [], _, rfl, (fun z9 h9 => absurd h9 List.not_mem_nil), by decide, by decide, kb_199, by decide +kernel, fun q => ?_⟩
      refine k_astore X dL_reason_13 (by rw [hN]; decide) ?_
      refine k_iconst (v := (nI 1)) X dL_reason_15 (by decide) ?_
      exact k_iret X hE dL_reason_16 (by first | omega | exact Nat.le_of_ble_eq_true rfl | (dsimp only; omega)) (by first | omega | exact Nat.le_of_ble_eq_true rfl | (dsimp only; omega)) (Or.inr (⟨rfl, (Or.inl z), rfl, rfl⟩))
    ·
      refine ⟨tableOf [], ⟨0, 10, 13, 20⟩, tableOf [], _, rfl, (fun z9 h9 => absurd h9 List.not_mem_nil), by decide, by decide, kb_199, by decide +kernel, fun q => ?_⟩
      refine k_astore X dL_reason_13 (by rw [hN]; decide) ?_
      refine k_iconst (v := (nI 1)) X dL_reason_15 (by decide) ?_
      exact k_iret X hE dL_reason_16 (by first | omega | exact Nat.le_of_ble_eq_true rfl | (dsimp only; omega)) (by first | omega | exact Nat.le_of_ble_eq_true rfl | (dsimp only; omega)) (Or.inr (⟨rfl, (Or.inr z), rfl, rfl⟩))
  ·
    obtain ⟨rv, hv⟩ : ∃ rv, v = some (.int rv) := by
      obtain ⟨⟨_, _, _, _, _, _, e⟩, _, _⟩ := h9
      exact ⟨_, e⟩
    subst hv
    have e54 : C9 (54, 0, 0) = C (54, 0, 0) ∧ L9 (54, 0, 0) = L (54, 0, 0) := by
      obtain ⟨_, e1, e2⟩ := h9
      exact ⟨by rw [e2], by rw [e1]⟩
    refine k_i2l X dL_reason_8 ?_
    refine k_last (t := (54, 0, 0)) X (e54.1.trans hF) e54.2 (vp_in_nI (by decide) (by decide)) dL_reason_9 ?_
    refine k_goto (tgt := 17) X dL_reason_10 (by decide) ?_
    refine k_iconst (v := (nI 0)) X dL_reason_17 (by decide) ?_
    exact k_iret X hE dL_reason_18 (by first | omega | exact Nat.le_of_ble_eq_true rfl | (dsimp only; omega)) (by first | omega | exact Nat.le_of_ble_eq_true rfl | (dsimp only; omega)) (Or.inl (⟨rv, C9, _, h9, rfl, rfl, kout0⟩))

set_option maxHeartbeats 4000000 in
set_option maxRecDepth 100000 in
theorem h_refusedValue {l : Launch} (htr : l.stackTraces = false) {E : kE} {A : Nat → Prop} {C : kC} {L : kL} {S : kI4} {N : kN3} (hX : isX E C L S N) (hO : okX S N) {f8 : Nat → Int64} (hF : C (54, 0, 0) = some (.inl (E.2.1 2, 1, .inr (.inl f8)))) (dv pl : Int32) : kMH l yL_refusedValue cL_refusedValue 5 (some .int) [(0, 10, 13, 20)] 9 148 2 12 E A C L [.ref (L (1, 0, 0)), .int dv, .int pl, .ref (L (54, 0, 0))] (fun v C' L' => (∃ (rv : Int32) (C1 : kC) (f9 : Nat → Int64), ((∃ d, d < 4 ∧ dv = nI d ∧ ∃ i, i < N 5 d 0 ∧ pl = nI i ∧ (some (.int rv) : Option Value) = some (.int (S 11 d (N 6 d i) 2))) ∧ L = L' ∧ C = C1) ∧ v = some (.int (nI 0)) ∧ C' = kup C1 (54, 0, 0) (some (.inl (E.2.1 2, 1, .inr (.inl f9)))) ∧ f9 0 = rv.toInt64) ∨ (v = some (.int (nI 1)) ∧ ((¬ kix dv 4) ∨ (∃ d, d < 4 ∧ dv = nI d ∧ ¬ kix pl (N 5 d 0))) ∧ L = L' ∧ C = C')) := by
  refine kMH.of htr (by decide) (Nat.le_of_ble_eq_true rfl) (fun Γ hl hR hN hT X hE => ?_)
  refine k_lo (lo' := [(0, .ref (L (1, 0, 0))), (1, .int dv), (2, .int pl), (3, .ref (L (54, 0, 0)))]) ⟨rfl, rfl, rfl, rfl, trivial⟩ ?_
  refine k_aload_n X dL_refusedValue_0 rfl rfl ?_
  refine k_iconst (v := (nI 0)) X dL_refusedValue_1 (by decide) ?_
  refine k_aload_n X dL_refusedValue_2 rfl rfl ?_
  refine k_iload_n X dL_refusedValue_3 rfl rfl ?_
  refine k_iload_n X dL_refusedValue_4 rfl rfl ?_
  refine k_callVH (rest := [.int (nI 0), .ref (L (54, 0, 0))]) (hh := [(0, 10, 13, 20)]) X hT kv_X5_refusedValue kb_665 (c_refusedValue X.tr hX hO dv pl) hX.1.1.1 rfl rfl rfl rfl rfl (Nat.le_of_ble_eq_true rfl) ⟨by rw [hR]; exact Nat.le_of_ble_eq_true rfl, by rw [hR]; exact Nat.le_of_ble_eq_true rfl⟩ ⟨by rw [hR]; dsimp only; omega, by rw [hR]; dsimp only; omega⟩ dL_refusedValue_5 (fun X9 hx => ?_) (fun v C9 L9 h9 => ?_)
  ·
    rcases hx with ⟨rfl, z⟩ | ⟨rfl, z⟩
    ·
      refine ⟨tableOf [], ⟨0, 10, 13, 20⟩, tableOf [], _, rfl, (fun z9 h9 => absurd h9 List.not_mem_nil), by decide, by decide, kb_199, by decide +kernel, fun q => ?_⟩
      refine k_astore X dL_refusedValue_13 (by rw [hN]; decide) ?_
      refine k_iconst (v := (nI 1)) X dL_refusedValue_15 (by decide) ?_
      exact k_iret X hE dL_refusedValue_16 (by first | omega | exact Nat.le_of_ble_eq_true rfl | (dsimp only; omega)) (by first | omega | exact Nat.le_of_ble_eq_true rfl | (dsimp only; omega)) (Or.inr (⟨rfl, (Or.inl z), rfl, rfl⟩))
    ·
      refine ⟨tableOf [], ⟨0, 10, 13, 20⟩, tableOf [], _, rfl, (fun z9 h9 => absurd h9 List.not_mem_nil), by decide, by decide, kb_199, by decide +kernel, fun q => ?_⟩
      refine k_astore X dL_refusedValue_13 (by rw [hN]; decide) ?_
      refine k_iconst (v := (nI 1)) X dL_refusedValue_15 (by decide) ?_
      exact k_iret X hE dL_refusedValue_16 (by first | omega | exact Nat.le_of_ble_eq_true rfl | (dsimp only; omega)) (by first | omega | exact Nat.le_of_ble_eq_true rfl | (dsimp only; omega)) (Or.inr (⟨rfl, (Or.inr z), rfl, rfl⟩))
  ·
    obtain ⟨rv, hv⟩ : ∃ rv, v = some (.int rv) := by
      obtain ⟨⟨_, _, _, _, _, _, e⟩, _, _⟩ := h9
      exact ⟨_, e⟩
    subst hv
    have e54 : C9 (54, 0, 0) = C (54, 0, 0) ∧ L9 (54, 0, 0) = L (54, 0, 0) := by
      obtain ⟨_, e1, e2⟩ := h9
      exact ⟨by rw [e2], by rw [e1]⟩
    refine k_i2l X dL_refusedValue_8 ?_
    refine k_last (t := (54, 0, 0)) X (e54.1.trans hF) e54.2 (vp_in_nI (by decide) (by decide)) dL_refusedValue_9 ?_
    refine k_goto (tgt := 17) X dL_refusedValue_10 (by decide) ?_
    refine k_iconst (v := (nI 0)) X dL_refusedValue_17 (by decide) ?_
    exact k_iret X hE dL_refusedValue_18 (by first | omega | exact Nat.le_of_ble_eq_true rfl | (dsimp only; omega)) (by first | omega | exact Nat.le_of_ble_eq_true rfl | (dsimp only; omega)) (Or.inl (⟨rv, C9, _, h9, rfl, rfl, kout0⟩))
