theorem ksh_add : kSH yL_adds cL_adds 4 (some .int) [(0, 6, 7, 13), (0, 6, 11, 16)] 3 := ⟨kb_69, kb_52, kb_70, (by decide +kernel), (by decide +kernel), (by decide +kernel)⟩
theorem ksh_give : kSH yL_gives cL_gives 4 (some .int) [(0, 6, 7, 22), (0, 6, 11, 13)] 3 := ⟨kb_159, kb_52, kb_160, (by decide +kernel), (by decide +kernel), (by decide +kernel)⟩
theorem ksh_set : kSH yL_sets cL_sets 5 (some .int) [(0, 7, 8, 22), (0, 7, 13, 13)] 4 := ⟨kb_192, kb_52, kb_193, (by decide +kernel), (by decide +kernel), (by decide +kernel)⟩
theorem ksh_crew : kSH yL_crew cL_crew 3 (some .int) [(0, 5, 6, 22)] 2 := ⟨kb_381, kb_52, kb_382, (by decide +kernel), (by decide +kernel), (by decide +kernel)⟩
theorem ksh_site : kSH yL_site cL_site 3 (some .int) [(0, 5, 6, 22)] 2 := ⟨kb_388, kb_52, kb_389, (by decide +kernel), (by decide +kernel), (by decide +kernel)⟩
theorem ksh_value : kSH yL_value cL_value 4 (some .int) [(0, 6, 7, 22), (0, 6, 11, 13)] 3 := ⟨kb_396, kb_52, kb_397, (by decide +kernel), (by decide +kernel), (by decide +kernel)⟩
theorem ksh_version : kSH yL_version cL_version 4 (some .int) [(0, 6, 7, 22), (0, 6, 11, 13)] 3 := ⟨kb_407, kb_52, kb_408, (by decide +kernel), (by decide +kernel), (by decide +kernel)⟩
theorem ksh_setRoom : kSH yL_rooms cL_rooms 4 (some .int) [(0, 6, 7, 22), (0, 6, 11, 13)] 3 := ⟨kb_214, kb_52, kb_215, (by decide +kernel), (by decide +kernel), (by decide +kernel)⟩
theorem ksh_fetch : kSH yL_fetches cL_fetches 3 (some .int) [(0, 5, 6, 22)] 2 := ⟨kb_226, kb_52, kb_227, (by decide +kernel), (by decide +kernel), (by decide +kernel)⟩
theorem ksh_held : kSH yL_held cL_held 3 (some .int) [(0, 5, 6, 22)] 2 := ⟨kb_414, kb_52, kb_415, (by decide +kernel), (by decide +kernel), (by decide +kernel)⟩
theorem ksh_holds : kSH yL_holds cL_holds 4 (some .int) [(0, 14, 15, 22)] 3 := ⟨kb_421, kb_52, kb_422, (by decide +kernel), (by decide +kernel), (by decide +kernel)⟩
theorem ksh_heldValue : kSH yL_heldValue cL_heldValue 5 (some .int) [(0, 7, 8, 22), (0, 7, 13, 13), (0, 7, 18, 16)] 4 := ⟨kb_428, kb_52, kb_429, (by decide +kernel), (by decide +kernel), (by decide +kernel)⟩
theorem ksh_change : kSH yL_changes cL_changes 6 (some .int) [(0, 9, 10, 22), (0, 9, 15, 13), (0, 9, 20, 16)] 5 := ⟨kb_255, kb_52, kb_256, (by decide +kernel), (by decide +kernel), (by decide +kernel)⟩
theorem ksh_make : kSH yL_makes cL_makes 4 (some .int) [(0, 6, 7, 22), (0, 6, 11, 13)] 3 := ⟨kb_305, kb_52, kb_306, (by decide +kernel), (by decide +kernel), (by decide +kernel)⟩
theorem ksh_numberOf : kSH yL_number cL_number 4 (some .int) [(0, 6, 7, 22), (0, 6, 11, 13)] 3 := ⟨kb_435, kb_52, kb_436, (by decide +kernel), (by decide +kernel), (by decide +kernel)⟩
theorem ksh_send : kSH yL_sends cL_sends 4 (some .int) [(0, 6, 7, 22), (0, 6, 11, 13)] 3 := ⟨kb_332, kb_52, kb_333, (by decide +kernel), (by decide +kernel), (by decide +kernel)⟩
theorem ksh_waiting : kSH yL_waiting cL_waiting 3 (some .int) [(0, 5, 6, 22)] 2 := ⟨kb_325, kb_52, kb_326, (by decide +kernel), (by decide +kernel), (by decide +kernel)⟩
theorem ksh_pile : kSH yL_pile cL_pile 3 (some .int) [(0, 5, 6, 22)] 2 := ⟨kb_443, kb_52, kb_444, (by decide +kernel), (by decide +kernel), (by decide +kernel)⟩
theorem ksh_reason : kSH yL_reason cL_reason 4 (some .int) [(0, 6, 7, 22)] 3 := ⟨kb_451, kb_52, kb_452, (by decide +kernel), (by decide +kernel), (by decide +kernel)⟩
theorem ksh_refusedValue : kSH yL_refused cL_refused 4 (some .int) [(0, 6, 7, 22)] 3 := ⟨kb_464, kb_52, kb_465, (by decide +kernel), (by decide +kernel), (by decide +kernel)⟩
set_option maxHeartbeats 4000000 in
set_option maxRecDepth 100000 in
theorem h_add {l : Launch} (htr : l.stackTraces = false) {E : kE} {A : Nat → Prop} {C : kC} {L : kL} {S : kI4} {N : kN3} (hX : isX E C L S N) (hO : okX S N) (cr si : Int32) : kMH l yL_adds cL_adds 4 (some .int) [(0, 6, 7, 13), (0, 6, 11, 16)] 8 193 6 110 E A C L [.ref (L (1, 0, 0)), .int cr, .int si] (fun v C' L' => (((kin cr (nI 0) (nI 3) ∧ kin si (nI 0) (nI 9)) ∧ N 1 0 0 < 40 ∧ v = some (.int (nI (N 1 0 0))) ∧ isX E C' L' (sAddJ S (N 1 0 0) cr si) (nAddJ N)) ∧ kFr C L C' L' ∧ ∀ t : kT, t.1 ≤ 1 → L' t = L t) ∨ (v = some (.int (-2000000002)) ∧ ((¬ (kin cr (nI 0) (nI 3) ∧ kin si (nI 0) (nI 9)))) ∧ L = L' ∧ C = C') ∨ (v = some (.int (-2000000003)) ∧ ((kin cr (nI 0) (nI 3) ∧ kin si (nI 0) (nI 9) ∧ N 1 0 0 = 40)) ∧ L = L' ∧ C = C')) := by
  refine kMH.of htr (by decide) (Nat.le_of_ble_eq_true rfl) (fun Γ hl hR hN hT X hE => ?_)
  refine k_lo (lo' := [(0, .ref (L (1, 0, 0))), (1, .int cr), (2, .int si)]) ⟨rfl, rfl, rfl, trivial⟩ ?_
  refine k_aload_n X dL_adds_0 rfl rfl ?_
  refine k_iload_n X dL_adds_1 rfl rfl ?_
  refine k_iload_n X dL_adds_2 rfl rfl ?_
  refine k_callVH (rest := []) (hh := [(0, 6, 7, 13), (0, 6, 11, 16)]) X hT kv_X5_add kb_75 (c_add X.tr hX hO cr si) hX.1.1.1 rfl rfl rfl rfl rfl (Nat.le_of_ble_eq_true rfl) ⟨by rw [hR]; exact Nat.le_of_ble_eq_true rfl, by rw [hR]; exact Nat.le_of_ble_eq_true rfl⟩ ⟨by rw [hR]; dsimp only; omega, by rw [hR]; dsimp only; omega⟩ dL_adds_3 (fun X9 hx => ?_) (fun v C9 L9 h9 => ?_)
  ·
    rcases hx with ⟨rfl, z⟩ | ⟨rfl, z⟩
    ·
      refine ⟨tableOf [], ⟨0, 6, 7, 13⟩, tableOf [(0, 6, 11, 16)], _, rfl, (fun z9 h9 => absurd h9 List.not_mem_nil), by decide, by decide, kb_71, by decide +kernel, fun q => ?_⟩
      refine k_astore_n X dL_adds_7 rfl (by rw [hN]; decide) ?_
      refine k_ldc X kb_73 dL_adds_8 ?_
      exact k_iret X hE dL_adds_10 (by first | omega | exact Nat.le_of_ble_eq_true rfl | (dsimp only; omega)) (by first | omega | exact Nat.le_of_ble_eq_true rfl | (dsimp only; omega)) (Or.inr (Or.inl (⟨rfl, z, rfl, rfl⟩)))
    ·
      refine ⟨tableOf [(0, 6, 7, 13)], ⟨0, 6, 11, 16⟩, tableOf [], _, rfl, (List.forall_mem_cons.mpr ⟨Or.inr ⟨by decide, _, kb_71, by decide +kernel⟩, (fun z9 h9 => absurd h9 List.not_mem_nil)⟩), by decide, by decide, kb_72, by decide +kernel, fun q => ?_⟩
      refine k_astore_n X dL_adds_11 rfl (by rw [hN]; decide) ?_
      refine k_ldc X kb_74 dL_adds_12 ?_
      exact k_iret X hE dL_adds_14 (by first | omega | exact Nat.le_of_ble_eq_true rfl | (dsimp only; omega)) (by first | omega | exact Nat.le_of_ble_eq_true rfl | (dsimp only; omega)) (Or.inr (Or.inr (⟨rfl, z, rfl, rfl⟩)))
  ·
    obtain ⟨rv, hv⟩ : ∃ rv, v = some (.int rv) := by
      obtain ⟨⟨_, _, e, _⟩, _, _⟩ := h9
      exact ⟨_, e⟩
    subst hv
    exact k_iret X hE dL_adds_6 (by first | omega | exact Nat.le_of_ble_eq_true rfl | (dsimp only; omega)) (by first | omega | exact Nat.le_of_ble_eq_true rfl | (dsimp only; omega)) (Or.inl h9)

set_option maxHeartbeats 4000000 in
set_option maxRecDepth 100000 in
theorem h_give {l : Launch} (htr : l.stackTraces = false) {E : kE} {A : Nat → Prop} {C : kC} {L : kL} {S : kI4} {N : kN3} (hX : isX E C L S N) (hO : okX S N) (job cr : Int32) : kMH l yL_gives cL_gives 4 (some .int) [(0, 6, 7, 22), (0, 6, 11, 13)] 8 128 2 12 E A C L [.ref (L (1, 0, 0)), .int job, .int cr] (fun v C' L' => ((∃ i, i < N 1 0 0 ∧ job = nI i ∧ kin cr (nI 0) (nI 3) ∧ v = some (.int (S 2 i 0 0)) ∧ isX E C' L' (w4 S 2 i 0 0 cr) N) ∧ L = L' ∧ kFr C L C' L') ∨ (v = some (.int (-2000000001)) ∧ ((¬ kix job (N 1 0 0))) ∧ L = L' ∧ C = C') ∨ (v = some (.int (-2000000002)) ∧ ((kix job (N 1 0 0) ∧ ¬ (kin cr (nI 0) (nI 3)))) ∧ L = L' ∧ C = C')) := by
  refine kMH.of htr (by decide) (Nat.le_of_ble_eq_true rfl) (fun Γ hl hR hN hT X hE => ?_)
  refine k_lo (lo' := [(0, .ref (L (1, 0, 0))), (1, .int job), (2, .int cr)]) ⟨rfl, rfl, rfl, trivial⟩ ?_
  refine k_aload_n X dL_gives_0 rfl rfl ?_
  refine k_iload_n X dL_gives_1 rfl rfl ?_
  refine k_iload_n X dL_gives_2 rfl rfl ?_
  refine k_callVH (rest := []) (hh := [(0, 6, 7, 22), (0, 6, 11, 13)]) X hT kv_X5_give kb_163 (c_give X.tr hX hO job cr) hX.1.1.1 rfl rfl rfl rfl rfl (Nat.le_of_ble_eq_true rfl) ⟨by rw [hR]; exact Nat.le_of_ble_eq_true rfl, by rw [hR]; exact Nat.le_of_ble_eq_true rfl⟩ ⟨by rw [hR]; dsimp only; omega, by rw [hR]; dsimp only; omega⟩ dL_gives_3 (fun X9 hx => ?_) (fun v C9 L9 h9 => ?_)
  ·
    rcases hx with ⟨rfl, z⟩ | ⟨rfl, z⟩
    ·
      refine ⟨tableOf [], ⟨0, 6, 7, 22⟩, tableOf [(0, 6, 11, 13)], _, rfl, (fun z9 h9 => absurd h9 List.not_mem_nil), by decide, by decide, kb_161, by decide +kernel, fun q => ?_⟩
      refine k_astore_n X dL_gives_7 rfl (by rw [hN]; decide) ?_
      refine k_ldc X kb_162 dL_gives_8 ?_
      exact k_iret X hE dL_gives_10 (by first | omega | exact Nat.le_of_ble_eq_true rfl | (dsimp only; omega)) (by first | omega | exact Nat.le_of_ble_eq_true rfl | (dsimp only; omega)) (Or.inr (Or.inl (⟨rfl, z, rfl, rfl⟩)))
    ·
      refine ⟨tableOf [(0, 6, 7, 22)], ⟨0, 6, 11, 13⟩, tableOf [], _, rfl, (List.forall_mem_cons.mpr ⟨Or.inr ⟨by decide, _, kb_161, by decide +kernel⟩, (fun z9 h9 => absurd h9 List.not_mem_nil)⟩), by decide, by decide, kb_71, by decide +kernel, fun q => ?_⟩
      refine k_astore_n X dL_gives_11 rfl (by rw [hN]; decide) ?_
      refine k_ldc X kb_73 dL_gives_12 ?_
      exact k_iret X hE dL_gives_14 (by first | omega | exact Nat.le_of_ble_eq_true rfl | (dsimp only; omega)) (by first | omega | exact Nat.le_of_ble_eq_true rfl | (dsimp only; omega)) (Or.inr (Or.inr (⟨rfl, z, rfl, rfl⟩)))
  ·
    obtain ⟨rv, hv⟩ : ∃ rv, v = some (.int rv) := by
      obtain ⟨⟨_, _, _, _, e, _⟩, _, _⟩ := h9
      exact ⟨_, e⟩
    subst hv
    exact k_iret X hE dL_gives_6 (by first | omega | exact Nat.le_of_ble_eq_true rfl | (dsimp only; omega)) (by first | omega | exact Nat.le_of_ble_eq_true rfl | (dsimp only; omega)) (Or.inl h9)

set_option maxHeartbeats 4000000 in
set_option maxRecDepth 100000 in
theorem h_set {l : Launch} (htr : l.stackTraces = false) {E : kE} {A : Nat → Prop} {C : kC} {L : kL} {S : kI4} {N : kN3} (hX : isX E C L S N) (hO : okX S N) (job f x : Int32) : kMH l yL_sets cL_sets 5 (some .int) [(0, 7, 8, 22), (0, 7, 13, 13)] 10 169 3 18 E A C L [.ref (L (1, 0, 0)), .int job, .int f, .int x] (fun v C' L' => ((∃ i, i < N 1 0 0 ∧ job = nI i ∧ (kin f (nI 0) (nI 1) ∧ kin x (nI 0) (if f = nI 0 then nI 2 else nI 10000)) ∧ v = some (.int (if f = nI 0 then sPut S 3 i 0 f x 3 i 0 2 else sPut S 3 i 0 f x 3 i 0 3)) ∧ isX E C' L' (sPut S 3 i 0 f x) N) ∧ L = L' ∧ kFr C L C' L') ∨ (v = some (.int (-2000000001)) ∧ ((¬ kix job (N 1 0 0))) ∧ L = L' ∧ C = C') ∨ (v = some (.int (-2000000002)) ∧ ((kix job (N 1 0 0) ∧ ¬ (kin f (nI 0) (nI 1) ∧ kin x (nI 0) (if f = nI 0 then nI 2 else nI 10000)))) ∧ L = L' ∧ C = C')) := by
  refine kMH.of htr (by decide) (Nat.le_of_ble_eq_true rfl) (fun Γ hl hR hN hT X hE => ?_)
  refine k_lo (lo' := [(0, .ref (L (1, 0, 0))), (1, .int job), (2, .int f), (3, .int x)]) ⟨rfl, rfl, rfl, rfl, trivial⟩ ?_
  refine k_aload_n X dL_sets_0 rfl rfl ?_
  refine k_iload_n X dL_sets_1 rfl rfl ?_
  refine k_iload_n X dL_sets_2 rfl rfl ?_
  refine k_iload_n X dL_sets_3 rfl rfl ?_
  refine k_callVH (rest := []) (hh := [(0, 7, 8, 22), (0, 7, 13, 13)]) X hT kv_X5_set kb_194 (c_set X.tr hX hO job f x) hX.1.1.1 rfl rfl rfl rfl rfl (Nat.le_of_ble_eq_true rfl) ⟨by rw [hR]; exact Nat.le_of_ble_eq_true rfl, by rw [hR]; exact Nat.le_of_ble_eq_true rfl⟩ ⟨by rw [hR]; dsimp only; omega, by rw [hR]; dsimp only; omega⟩ dL_sets_4 (fun X9 hx => ?_) (fun v C9 L9 h9 => ?_)
  ·
    rcases hx with ⟨rfl, z⟩ | ⟨rfl, z⟩
    ·
      refine ⟨tableOf [], ⟨0, 7, 8, 22⟩, tableOf [(0, 7, 13, 13)], _, rfl, (fun z9 h9 => absurd h9 List.not_mem_nil), by decide, by decide, kb_161, by decide +kernel, fun q => ?_⟩
      refine k_astore X dL_sets_8 (by rw [hN]; decide) ?_
      refine k_ldc X kb_162 dL_sets_10 ?_
      exact k_iret X hE dL_sets_12 (by first | omega | exact Nat.le_of_ble_eq_true rfl | (dsimp only; omega)) (by first | omega | exact Nat.le_of_ble_eq_true rfl | (dsimp only; omega)) (Or.inr (Or.inl (⟨rfl, z, rfl, rfl⟩)))
    ·
      refine ⟨tableOf [(0, 7, 8, 22)], ⟨0, 7, 13, 13⟩, tableOf [], _, rfl, (List.forall_mem_cons.mpr ⟨Or.inr ⟨by decide, _, kb_161, by decide +kernel⟩, (fun z9 h9 => absurd h9 List.not_mem_nil)⟩), by decide, by decide, kb_71, by decide +kernel, fun q => ?_⟩
      refine k_astore X dL_sets_13 (by rw [hN]; decide) ?_
      refine k_ldc X kb_73 dL_sets_15 ?_
      exact k_iret X hE dL_sets_17 (by first | omega | exact Nat.le_of_ble_eq_true rfl | (dsimp only; omega)) (by first | omega | exact Nat.le_of_ble_eq_true rfl | (dsimp only; omega)) (Or.inr (Or.inr (⟨rfl, z, rfl, rfl⟩)))
  ·
    obtain ⟨rv, hv⟩ : ∃ rv, v = some (.int rv) := by
      obtain ⟨⟨_, _, _, _, e, _⟩, _, _⟩ := h9
      exact ⟨_, e⟩
    subst hv
    exact k_iret X hE dL_sets_7 (by first | omega | exact Nat.le_of_ble_eq_true rfl | (dsimp only; omega)) (by first | omega | exact Nat.le_of_ble_eq_true rfl | (dsimp only; omega)) (Or.inl h9)

set_option maxHeartbeats 4000000 in
set_option maxRecDepth 100000 in
theorem h_crew {l : Launch} (htr : l.stackTraces = false) {E : kE} {A : Nat → Prop} {C : kC} {L : kL} {S : kI4} {N : kN3} (hX : isX E C L S N) (hO : okX S N) (job : Int32) : kMH l yL_crew cL_crew 3 (some .int) [(0, 5, 6, 22)] 8 124 1 6 E A C L [.ref (L (1, 0, 0)), .int job] (fun v C' L' => ((∃ i, i < N 1 0 0 ∧ job = nI i ∧ v = some (.int (S 2 i 0 0))) ∧ L = L' ∧ C = C') ∨ (v = some (.int (-2000000001)) ∧ ((¬ kix job (N 1 0 0))) ∧ L = L' ∧ C = C')) := by
  refine kMH.of htr (by decide) (Nat.le_of_ble_eq_true rfl) (fun Γ hl hR hN hT X hE => ?_)
  refine k_lo (lo' := [(0, .ref (L (1, 0, 0))), (1, .int job)]) ⟨rfl, rfl, trivial⟩ ?_
  refine k_aload_n X dL_crew_0 rfl rfl ?_
  refine k_iload_n X dL_crew_1 rfl rfl ?_
  refine k_callVH (rest := []) (hh := [(0, 5, 6, 22)]) X hT kv_X5_crew kb_383 (c_crew X.tr hX hO job) hX.1.1.1 rfl rfl rfl rfl rfl (Nat.le_of_ble_eq_true rfl) ⟨by rw [hR]; exact Nat.le_of_ble_eq_true rfl, by rw [hR]; exact Nat.le_of_ble_eq_true rfl⟩ ⟨by rw [hR]; dsimp only; omega, by rw [hR]; dsimp only; omega⟩ dL_crew_2 (fun X9 hx => ?_) (fun v C9 L9 h9 => ?_)
  ·
    obtain ⟨rfl, z⟩ := hx
    refine ⟨tableOf [], ⟨0, 5, 6, 22⟩, tableOf [], _, rfl, (fun z9 h9 => absurd h9 List.not_mem_nil), by decide, by decide, kb_161, by decide +kernel, fun q => ?_⟩
    refine k_astore_n X dL_crew_6 rfl (by rw [hN]; decide) ?_
    refine k_ldc X kb_162 dL_crew_7 ?_
    exact k_iret X hE dL_crew_9 (by first | omega | exact Nat.le_of_ble_eq_true rfl | (dsimp only; omega)) (by first | omega | exact Nat.le_of_ble_eq_true rfl | (dsimp only; omega)) (Or.inr (⟨rfl, z, rfl, rfl⟩))
  ·
    obtain ⟨rv, hv⟩ : ∃ rv, v = some (.int rv) := by
      obtain ⟨⟨_, _, _, e⟩, _, _⟩ := h9
      exact ⟨_, e⟩
    subst hv
    exact k_iret X hE dL_crew_5 (by first | omega | exact Nat.le_of_ble_eq_true rfl | (dsimp only; omega)) (by first | omega | exact Nat.le_of_ble_eq_true rfl | (dsimp only; omega)) (Or.inl h9)

set_option maxHeartbeats 4000000 in
set_option maxRecDepth 100000 in
theorem h_site {l : Launch} (htr : l.stackTraces = false) {E : kE} {A : Nat → Prop} {C : kC} {L : kL} {S : kI4} {N : kN3} (hX : isX E C L S N) (hO : okX S N) (job : Int32) : kMH l yL_site cL_site 3 (some .int) [(0, 5, 6, 22)] 8 124 1 6 E A C L [.ref (L (1, 0, 0)), .int job] (fun v C' L' => ((∃ i, i < N 1 0 0 ∧ job = nI i ∧ v = some (.int (S 1 i 0 0))) ∧ L = L' ∧ C = C') ∨ (v = some (.int (-2000000001)) ∧ ((¬ kix job (N 1 0 0))) ∧ L = L' ∧ C = C')) := by
  refine kMH.of htr (by decide) (Nat.le_of_ble_eq_true rfl) (fun Γ hl hR hN hT X hE => ?_)
  refine k_lo (lo' := [(0, .ref (L (1, 0, 0))), (1, .int job)]) ⟨rfl, rfl, trivial⟩ ?_
  refine k_aload_n X dL_site_0 rfl rfl ?_
  refine k_iload_n X dL_site_1 rfl rfl ?_
  refine k_callVH (rest := []) (hh := [(0, 5, 6, 22)]) X hT kv_X5_site kb_390 (c_site X.tr hX hO job) hX.1.1.1 rfl rfl rfl rfl rfl (Nat.le_of_ble_eq_true rfl) ⟨by rw [hR]; exact Nat.le_of_ble_eq_true rfl, by rw [hR]; exact Nat.le_of_ble_eq_true rfl⟩ ⟨by rw [hR]; dsimp only; omega, by rw [hR]; dsimp only; omega⟩ dL_site_2 (fun X9 hx => ?_) (fun v C9 L9 h9 => ?_)
  ·
    obtain ⟨rfl, z⟩ := hx
    refine ⟨tableOf [], ⟨0, 5, 6, 22⟩, tableOf [], _, rfl, (fun z9 h9 => absurd h9 List.not_mem_nil), by decide, by decide, kb_161, by decide +kernel, fun q => ?_⟩
    refine k_astore_n X dL_site_6 rfl (by rw [hN]; decide) ?_
    refine k_ldc X kb_162 dL_site_7 ?_
    exact k_iret X hE dL_site_9 (by first | omega | exact Nat.le_of_ble_eq_true rfl | (dsimp only; omega)) (by first | omega | exact Nat.le_of_ble_eq_true rfl | (dsimp only; omega)) (Or.inr (⟨rfl, z, rfl, rfl⟩))
  ·
    obtain ⟨rv, hv⟩ : ∃ rv, v = some (.int rv) := by
      obtain ⟨⟨_, _, _, e⟩, _, _⟩ := h9
      exact ⟨_, e⟩
    subst hv
    exact k_iret X hE dL_site_5 (by first | omega | exact Nat.le_of_ble_eq_true rfl | (dsimp only; omega)) (by first | omega | exact Nat.le_of_ble_eq_true rfl | (dsimp only; omega)) (Or.inl h9)

set_option maxHeartbeats 4000000 in
set_option maxRecDepth 100000 in
theorem h_value {l : Launch} (htr : l.stackTraces = false) {E : kE} {A : Nat → Prop} {C : kC} {L : kL} {S : kI4} {N : kN3} (hX : isX E C L S N) (hO : okX S N) (job f : Int32) : kMH l yL_value cL_value 4 (some .int) [(0, 6, 7, 22), (0, 6, 11, 13)] 9 147 2 12 E A C L [.ref (L (1, 0, 0)), .int job, .int f] (fun v C' L' => ((∃ i, i < N 1 0 0 ∧ job = nI i ∧ kin f (nI 0) (nI 1) ∧ v = some (.int (if f = nI 0 then S 3 i 0 0 else S 3 i 0 1))) ∧ L = L' ∧ C = C') ∨ (v = some (.int (-2000000001)) ∧ ((¬ kix job (N 1 0 0))) ∧ L = L' ∧ C = C') ∨ (v = some (.int (-2000000002)) ∧ ((kix job (N 1 0 0) ∧ ¬ (kin f (nI 0) (nI 1)))) ∧ L = L' ∧ C = C')) := by
  refine kMH.of htr (by decide) (Nat.le_of_ble_eq_true rfl) (fun Γ hl hR hN hT X hE => ?_)
  refine k_lo (lo' := [(0, .ref (L (1, 0, 0))), (1, .int job), (2, .int f)]) ⟨rfl, rfl, rfl, trivial⟩ ?_
  refine k_aload_n X dL_value_0 rfl rfl ?_
  refine k_iload_n X dL_value_1 rfl rfl ?_
  refine k_iload_n X dL_value_2 rfl rfl ?_
  refine k_callVH (rest := []) (hh := [(0, 6, 7, 22), (0, 6, 11, 13)]) X hT kv_X5_value kb_398 (c_value X.tr hX hO job f) hX.1.1.1 rfl rfl rfl rfl rfl (Nat.le_of_ble_eq_true rfl) ⟨by rw [hR]; exact Nat.le_of_ble_eq_true rfl, by rw [hR]; exact Nat.le_of_ble_eq_true rfl⟩ ⟨by rw [hR]; dsimp only; omega, by rw [hR]; dsimp only; omega⟩ dL_value_3 (fun X9 hx => ?_) (fun v C9 L9 h9 => ?_)
  ·
    rcases hx with ⟨rfl, z⟩ | ⟨rfl, z⟩
    ·
      refine ⟨tableOf [], ⟨0, 6, 7, 22⟩, tableOf [(0, 6, 11, 13)], _, rfl, (fun z9 h9 => absurd h9 List.not_mem_nil), by decide, by decide, kb_161, by decide +kernel, fun q => ?_⟩
      refine k_astore_n X dL_value_7 rfl (by rw [hN]; decide) ?_
      refine k_ldc X kb_162 dL_value_8 ?_
      exact k_iret X hE dL_value_10 (by first | omega | exact Nat.le_of_ble_eq_true rfl | (dsimp only; omega)) (by first | omega | exact Nat.le_of_ble_eq_true rfl | (dsimp only; omega)) (Or.inr (Or.inl (⟨rfl, z, rfl, rfl⟩)))
    ·
      refine ⟨tableOf [(0, 6, 7, 22)], ⟨0, 6, 11, 13⟩, tableOf [], _, rfl, (List.forall_mem_cons.mpr ⟨Or.inr ⟨by decide, _, kb_161, by decide +kernel⟩, (fun z9 h9 => absurd h9 List.not_mem_nil)⟩), by decide, by decide, kb_71, by decide +kernel, fun q => ?_⟩
      refine k_astore_n X dL_value_11 rfl (by rw [hN]; decide) ?_
      refine k_ldc X kb_73 dL_value_12 ?_
      exact k_iret X hE dL_value_14 (by first | omega | exact Nat.le_of_ble_eq_true rfl | (dsimp only; omega)) (by first | omega | exact Nat.le_of_ble_eq_true rfl | (dsimp only; omega)) (Or.inr (Or.inr (⟨rfl, z, rfl, rfl⟩)))
  ·
    obtain ⟨rv, hv⟩ : ∃ rv, v = some (.int rv) := by
      obtain ⟨⟨_, _, _, _, e⟩, _, _⟩ := h9
      exact ⟨_, e⟩
    subst hv
    exact k_iret X hE dL_value_6 (by first | omega | exact Nat.le_of_ble_eq_true rfl | (dsimp only; omega)) (by first | omega | exact Nat.le_of_ble_eq_true rfl | (dsimp only; omega)) (Or.inl h9)

set_option maxHeartbeats 4000000 in
set_option maxRecDepth 100000 in
theorem h_version {l : Launch} (htr : l.stackTraces = false) {E : kE} {A : Nat → Prop} {C : kC} {L : kL} {S : kI4} {N : kN3} (hX : isX E C L S N) (hO : okX S N) (job f : Int32) : kMH l yL_version cL_version 4 (some .int) [(0, 6, 7, 22), (0, 6, 11, 13)] 9 147 2 12 E A C L [.ref (L (1, 0, 0)), .int job, .int f] (fun v C' L' => ((∃ i, i < N 1 0 0 ∧ job = nI i ∧ kin f (nI 0) (nI 1) ∧ v = some (.int (if f = nI 0 then S 3 i 0 2 else S 3 i 0 3))) ∧ L = L' ∧ C = C') ∨ (v = some (.int (-2000000001)) ∧ ((¬ kix job (N 1 0 0))) ∧ L = L' ∧ C = C') ∨ (v = some (.int (-2000000002)) ∧ ((kix job (N 1 0 0) ∧ ¬ (kin f (nI 0) (nI 1)))) ∧ L = L' ∧ C = C')) := by
  refine kMH.of htr (by decide) (Nat.le_of_ble_eq_true rfl) (fun Γ hl hR hN hT X hE => ?_)
  refine k_lo (lo' := [(0, .ref (L (1, 0, 0))), (1, .int job), (2, .int f)]) ⟨rfl, rfl, rfl, trivial⟩ ?_
  refine k_aload_n X dL_version_0 rfl rfl ?_
  refine k_iload_n X dL_version_1 rfl rfl ?_
  refine k_iload_n X dL_version_2 rfl rfl ?_
  refine k_callVH (rest := []) (hh := [(0, 6, 7, 22), (0, 6, 11, 13)]) X hT kv_X5_version kb_409 (c_version X.tr hX hO job f) hX.1.1.1 rfl rfl rfl rfl rfl (Nat.le_of_ble_eq_true rfl) ⟨by rw [hR]; exact Nat.le_of_ble_eq_true rfl, by rw [hR]; exact Nat.le_of_ble_eq_true rfl⟩ ⟨by rw [hR]; dsimp only; omega, by rw [hR]; dsimp only; omega⟩ dL_version_3 (fun X9 hx => ?_) (fun v C9 L9 h9 => ?_)
  ·
    rcases hx with ⟨rfl, z⟩ | ⟨rfl, z⟩
    ·
      refine ⟨tableOf [], ⟨0, 6, 7, 22⟩, tableOf [(0, 6, 11, 13)], _, rfl, (fun z9 h9 => absurd h9 List.not_mem_nil), by decide, by decide, kb_161, by decide +kernel, fun q => ?_⟩
      refine k_astore_n X dL_version_7 rfl (by rw [hN]; decide) ?_
      refine k_ldc X kb_162 dL_version_8 ?_
      exact k_iret X hE dL_version_10 (by first | omega | exact Nat.le_of_ble_eq_true rfl | (dsimp only; omega)) (by first | omega | exact Nat.le_of_ble_eq_true rfl | (dsimp only; omega)) (Or.inr (Or.inl (⟨rfl, z, rfl, rfl⟩)))
    ·
      refine ⟨tableOf [(0, 6, 7, 22)], ⟨0, 6, 11, 13⟩, tableOf [], _, rfl, (List.forall_mem_cons.mpr ⟨Or.inr ⟨by decide, _, kb_161, by decide +kernel⟩, (fun z9 h9 => absurd h9 List.not_mem_nil)⟩), by decide, by decide, kb_71, by decide +kernel, fun q => ?_⟩
      refine k_astore_n X dL_version_11 rfl (by rw [hN]; decide) ?_
      refine k_ldc X kb_73 dL_version_12 ?_
      exact k_iret X hE dL_version_14 (by first | omega | exact Nat.le_of_ble_eq_true rfl | (dsimp only; omega)) (by first | omega | exact Nat.le_of_ble_eq_true rfl | (dsimp only; omega)) (Or.inr (Or.inr (⟨rfl, z, rfl, rfl⟩)))
  ·
    obtain ⟨rv, hv⟩ : ∃ rv, v = some (.int rv) := by
      obtain ⟨⟨_, _, _, _, e⟩, _, _⟩ := h9
      exact ⟨_, e⟩
    subst hv
    exact k_iret X hE dL_version_6 (by first | omega | exact Nat.le_of_ble_eq_true rfl | (dsimp only; omega)) (by first | omega | exact Nat.le_of_ble_eq_true rfl | (dsimp only; omega)) (Or.inl h9)

set_option maxHeartbeats 4000000 in
set_option maxRecDepth 100000 in
theorem h_setRoom {l : Launch} (htr : l.stackTraces = false) {E : kE} {A : Nat → Prop} {C : kC} {L : kL} {S : kI4} {N : kN3} (hX : isX E C L S N) (hO : okX S N) (dv ro : Int32) : kMH l yL_rooms cL_rooms 4 (some .int) [(0, 6, 7, 22), (0, 6, 11, 13)] 8 128 2 12 E A C L [.ref (L (1, 0, 0)), .int dv, .int ro] (fun v C' L' => ((∃ d, d < 4 ∧ dv = nI d ∧ kin ro (nI 0) (nI 40) ∧ v = some (.int (S 4 d 0 0)) ∧ isX E C' L' (w4 S 4 d 0 0 ro) N) ∧ L = L' ∧ kFr C L C' L') ∨ (v = some (.int (-2000000001)) ∧ ((¬ kix dv 4)) ∧ L = L' ∧ C = C') ∨ (v = some (.int (-2000000002)) ∧ ((kix dv 4 ∧ ¬ (kin ro (nI 0) (nI 40)))) ∧ L = L' ∧ C = C')) := by
  refine kMH.of htr (by decide) (Nat.le_of_ble_eq_true rfl) (fun Γ hl hR hN hT X hE => ?_)
  refine k_lo (lo' := [(0, .ref (L (1, 0, 0))), (1, .int dv), (2, .int ro)]) ⟨rfl, rfl, rfl, trivial⟩ ?_
  refine k_aload_n X dL_rooms_0 rfl rfl ?_
  refine k_iload_n X dL_rooms_1 rfl rfl ?_
  refine k_iload_n X dL_rooms_2 rfl rfl ?_
  refine k_callVH (rest := []) (hh := [(0, 6, 7, 22), (0, 6, 11, 13)]) X hT kv_X5_setRoom kb_216 (c_setRoom X.tr hX hO dv ro) hX.1.1.1 rfl rfl rfl rfl rfl (Nat.le_of_ble_eq_true rfl) ⟨by rw [hR]; exact Nat.le_of_ble_eq_true rfl, by rw [hR]; exact Nat.le_of_ble_eq_true rfl⟩ ⟨by rw [hR]; dsimp only; omega, by rw [hR]; dsimp only; omega⟩ dL_rooms_3 (fun X9 hx => ?_) (fun v C9 L9 h9 => ?_)
  ·
    rcases hx with ⟨rfl, z⟩ | ⟨rfl, z⟩
    ·
      refine ⟨tableOf [], ⟨0, 6, 7, 22⟩, tableOf [(0, 6, 11, 13)], _, rfl, (fun z9 h9 => absurd h9 List.not_mem_nil), by decide, by decide, kb_161, by decide +kernel, fun q => ?_⟩
      refine k_astore_n X dL_rooms_7 rfl (by rw [hN]; decide) ?_
      refine k_ldc X kb_162 dL_rooms_8 ?_
      exact k_iret X hE dL_rooms_10 (by first | omega | exact Nat.le_of_ble_eq_true rfl | (dsimp only; omega)) (by first | omega | exact Nat.le_of_ble_eq_true rfl | (dsimp only; omega)) (Or.inr (Or.inl (⟨rfl, z, rfl, rfl⟩)))
    ·
      refine ⟨tableOf [(0, 6, 7, 22)], ⟨0, 6, 11, 13⟩, tableOf [], _, rfl, (List.forall_mem_cons.mpr ⟨Or.inr ⟨by decide, _, kb_161, by decide +kernel⟩, (fun z9 h9 => absurd h9 List.not_mem_nil)⟩), by decide, by decide, kb_71, by decide +kernel, fun q => ?_⟩
      refine k_astore_n X dL_rooms_11 rfl (by rw [hN]; decide) ?_
      refine k_ldc X kb_73 dL_rooms_12 ?_
      exact k_iret X hE dL_rooms_14 (by first | omega | exact Nat.le_of_ble_eq_true rfl | (dsimp only; omega)) (by first | omega | exact Nat.le_of_ble_eq_true rfl | (dsimp only; omega)) (Or.inr (Or.inr (⟨rfl, z, rfl, rfl⟩)))
  ·
    obtain ⟨rv, hv⟩ : ∃ rv, v = some (.int rv) := by
      obtain ⟨⟨_, _, _, _, e, _⟩, _, _⟩ := h9
      exact ⟨_, e⟩
    subst hv
    exact k_iret X hE dL_rooms_6 (by first | omega | exact Nat.le_of_ble_eq_true rfl | (dsimp only; omega)) (by first | omega | exact Nat.le_of_ble_eq_true rfl | (dsimp only; omega)) (Or.inl h9)

set_option maxHeartbeats 4000000 in
set_option maxRecDepth 100000 in
theorem h_fetch {l : Launch} (htr : l.stackTraces = false) {E : kE} {A : Nat → Prop} {C : kC} {L : kL} {S : kI4} {N : kN3} (hX : isX E C L S N) (hO : okX S N) (dv : Int32) : kMH l yL_fetches cL_fetches 3 (some .int) [(0, 5, 6, 22)] 8 125 121 486 E A C L [.ref (L (1, 0, 0)), .int dv] (fun v C' L' => ((∃ d, d < 4 ∧ dv = nI d ∧ v = some (.int ((xFetch (S, N) d).1 6 d 0 0 + (xFetch (S, N) d).1 7 d 0 0)) ∧ isX E C' L' (xFetch (S, N) d).1 (xFetch (S, N) d).2) ∧ kFr C L C' L' ∧ ∀ t : kT, t.1 ≠ 16 → L' t = L t) ∨ (v = some (.int (-2000000001)) ∧ ((¬ kix dv 4)) ∧ L = L' ∧ C = C')) := by
  refine kMH.of htr (by decide) (Nat.le_of_ble_eq_true rfl) (fun Γ hl hR hN hT X hE => ?_)
  refine k_lo (lo' := [(0, .ref (L (1, 0, 0))), (1, .int dv)]) ⟨rfl, rfl, trivial⟩ ?_
  refine k_aload_n X dL_fetches_0 rfl rfl ?_
  refine k_iload_n X dL_fetches_1 rfl rfl ?_
  refine k_callVH (rest := []) (hh := [(0, 5, 6, 22)]) X hT kv_X5_fetch kb_228 (c_fetch X.tr hX hO dv) hX.1.1.1 rfl rfl rfl rfl rfl (Nat.le_of_ble_eq_true rfl) ⟨by rw [hR]; exact Nat.le_of_ble_eq_true rfl, by rw [hR]; exact Nat.le_of_ble_eq_true rfl⟩ ⟨by rw [hR]; dsimp only; omega, by rw [hR]; dsimp only; omega⟩ dL_fetches_2 (fun X9 hx => ?_) (fun v C9 L9 h9 => ?_)
  ·
    obtain ⟨rfl, z⟩ := hx
    refine ⟨tableOf [], ⟨0, 5, 6, 22⟩, tableOf [], _, rfl, (fun z9 h9 => absurd h9 List.not_mem_nil), by decide, by decide, kb_161, by decide +kernel, fun q => ?_⟩
    refine k_astore_n X dL_fetches_6 rfl (by rw [hN]; decide) ?_
    refine k_ldc X kb_162 dL_fetches_7 ?_
    exact k_iret X hE dL_fetches_9 (by first | omega | exact Nat.le_of_ble_eq_true rfl | (dsimp only; omega)) (by first | omega | exact Nat.le_of_ble_eq_true rfl | (dsimp only; omega)) (Or.inr (⟨rfl, z, rfl, rfl⟩))
  ·
    obtain ⟨rv, hv⟩ : ∃ rv, v = some (.int rv) := by
      obtain ⟨⟨_, _, _, e, _⟩, _, _⟩ := h9
      exact ⟨_, e⟩
    subst hv
    exact k_iret X hE dL_fetches_5 (by first | omega | exact Nat.le_of_ble_eq_true rfl | (dsimp only; omega)) (by first | omega | exact Nat.le_of_ble_eq_true rfl | (dsimp only; omega)) (Or.inl h9)

set_option maxHeartbeats 4000000 in
set_option maxRecDepth 100000 in
theorem h_held {l : Launch} (htr : l.stackTraces = false) {E : kE} {A : Nat → Prop} {C : kC} {L : kL} {S : kI4} {N : kN3} (hX : isX E C L S N) (hO : okX S N) (dv : Int32) : kMH l yL_held cL_held 3 (some .int) [(0, 5, 6, 22)] 8 124 1 6 E A C L [.ref (L (1, 0, 0)), .int dv] (fun v C' L' => ((∃ d, d < 4 ∧ dv = nI d ∧ v = some (.int (S 6 d 0 0 + S 7 d 0 0))) ∧ L = L' ∧ C = C') ∨ (v = some (.int (-2000000001)) ∧ ((¬ kix dv 4)) ∧ L = L' ∧ C = C')) := by
  refine kMH.of htr (by decide) (Nat.le_of_ble_eq_true rfl) (fun Γ hl hR hN hT X hE => ?_)
  refine k_lo (lo' := [(0, .ref (L (1, 0, 0))), (1, .int dv)]) ⟨rfl, rfl, trivial⟩ ?_
  refine k_aload_n X dL_held_0 rfl rfl ?_
  refine k_iload_n X dL_held_1 rfl rfl ?_
  refine k_callVH (rest := []) (hh := [(0, 5, 6, 22)]) X hT kv_X5_held kb_416 (c_held X.tr hX hO dv) hX.1.1.1 rfl rfl rfl rfl rfl (Nat.le_of_ble_eq_true rfl) ⟨by rw [hR]; exact Nat.le_of_ble_eq_true rfl, by rw [hR]; exact Nat.le_of_ble_eq_true rfl⟩ ⟨by rw [hR]; dsimp only; omega, by rw [hR]; dsimp only; omega⟩ dL_held_2 (fun X9 hx => ?_) (fun v C9 L9 h9 => ?_)
  ·
    obtain ⟨rfl, z⟩ := hx
    refine ⟨tableOf [], ⟨0, 5, 6, 22⟩, tableOf [], _, rfl, (fun z9 h9 => absurd h9 List.not_mem_nil), by decide, by decide, kb_161, by decide +kernel, fun q => ?_⟩
    refine k_astore_n X dL_held_6 rfl (by rw [hN]; decide) ?_
    refine k_ldc X kb_162 dL_held_7 ?_
    exact k_iret X hE dL_held_9 (by first | omega | exact Nat.le_of_ble_eq_true rfl | (dsimp only; omega)) (by first | omega | exact Nat.le_of_ble_eq_true rfl | (dsimp only; omega)) (Or.inr (⟨rfl, z, rfl, rfl⟩))
  ·
    obtain ⟨rv, hv⟩ : ∃ rv, v = some (.int rv) := by
      obtain ⟨⟨_, _, _, e⟩, _, _⟩ := h9
      exact ⟨_, e⟩
    subst hv
    exact k_iret X hE dL_held_5 (by first | omega | exact Nat.le_of_ble_eq_true rfl | (dsimp only; omega)) (by first | omega | exact Nat.le_of_ble_eq_true rfl | (dsimp only; omega)) (Or.inl h9)

set_option maxHeartbeats 4000000 in
set_option maxRecDepth 100000 in
theorem h_holds {l : Launch} (htr : l.stackTraces = false) {E : kE} {A : Nat → Prop} {C : kC} {L : kL} {S : kI4} {N : kN3} (hX : isX E C L S N) (hO : okX S N) (dv job : Int32) : kMH l yL_holds cL_holds 4 (some .int) [(0, 14, 15, 22)] 8 130 1 6 E A C L [.ref (L (1, 0, 0)), .int dv, .int job] (fun v C' L' => ((∃ d, d < 4 ∧ dv = nI d ∧ ∃ o, kHf S N d job o ∧ v = some (.int (match o with | none => nI 0 | some _ => nI 1))) ∧ L = L' ∧ C = C') ∨ (v = some (.int (-2000000001)) ∧ ((¬ kix dv 4)) ∧ L = L' ∧ C = C')) := by
  refine kMH.of htr (by decide) (Nat.le_of_ble_eq_true rfl) (fun Γ hl hR hN hT X hE => ?_)
  refine k_lo (lo' := [(0, .ref (L (1, 0, 0))), (1, .int dv), (2, .int job)]) ⟨rfl, rfl, rfl, trivial⟩ ?_
  refine k_aload_n X dL_holds_0 rfl rfl ?_
  refine k_iload_n X dL_holds_1 rfl rfl ?_
  refine k_iload_n X dL_holds_2 rfl rfl ?_
  refine k_callVH (rest := []) (hh := [(0, 14, 15, 22)]) X hT kv_X5_holds kb_423 (c_holds X.tr hX hO dv job) hX.1.1.1 rfl rfl rfl rfl rfl (Nat.le_of_ble_eq_true rfl) ⟨by rw [hR]; exact Nat.le_of_ble_eq_true rfl, by rw [hR]; exact Nat.le_of_ble_eq_true rfl⟩ ⟨by rw [hR]; dsimp only; omega, by rw [hR]; dsimp only; omega⟩ dL_holds_3 (fun X9 hx => ?_) (fun v C9 L9 h9 => ?_)
  ·
    obtain ⟨rfl, z⟩ := hx
    refine ⟨tableOf [], ⟨0, 14, 15, 22⟩, tableOf [], _, rfl, (fun z9 h9 => absurd h9 List.not_mem_nil), by decide, by decide, kb_161, by decide +kernel, fun q => ?_⟩
    refine k_astore_n X dL_holds_15 rfl (by rw [hN]; decide) ?_
    refine k_ldc X kb_162 dL_holds_16 ?_
    exact k_iret X hE dL_holds_18 (by first | omega | exact Nat.le_of_ble_eq_true rfl | (dsimp only; omega)) (by first | omega | exact Nat.le_of_ble_eq_true rfl | (dsimp only; omega)) (Or.inr (⟨rfl, z, rfl, rfl⟩))
  ·
    obtain ⟨⟨d9, hd9, e9, o, ho, e⟩, z9⟩ := h9
    subst e
    cases o with
    | none =>
      refine k_if_eq (tgt := 13) X dL_holds_6 (by decide) (fun c6 => ?_) (fun c6 => absurd (rfl : nI 0 = 0) c6)
      refine k_iconst (v := (nI 0)) X dL_holds_13 (by decide) ?_
      exact k_iret X hE dL_holds_14 (by first | omega | exact Nat.le_of_ble_eq_true rfl | (dsimp only; omega)) (by first | omega | exact Nat.le_of_ble_eq_true rfl | (dsimp only; omega)) (Or.inl ⟨⟨d9, hd9, e9, none, ho, rfl⟩, z9⟩)
    | some t9 =>
      refine k_if_eq (tgt := 13) X dL_holds_6 (by decide) (fun c6 => absurd c6 (show ¬ nI 1 = 0 by decide)) (fun c6 => ?_)
      refine k_iconst (v := (nI 1)) X dL_holds_9 (by decide) ?_
      refine k_goto (tgt := 14) X dL_holds_10 (by decide) ?_
      exact k_iret X hE dL_holds_14 (by first | omega | exact Nat.le_of_ble_eq_true rfl | (dsimp only; omega)) (by first | omega | exact Nat.le_of_ble_eq_true rfl | (dsimp only; omega)) (Or.inl ⟨⟨d9, hd9, e9, some t9, ho, rfl⟩, z9⟩)

set_option maxHeartbeats 4000000 in
set_option maxRecDepth 100000 in
theorem h_heldValue {l : Launch} (htr : l.stackTraces = false) {E : kE} {A : Nat → Prop} {C : kC} {L : kL} {S : kI4} {N : kN3} (hX : isX E C L S N) (hO : okX S N) (dv job f : Int32) : kMH l yL_heldValue cL_heldValue 5 (some .int) [(0, 7, 8, 22), (0, 7, 13, 13), (0, 7, 18, 16)] 9 154 3 18 E A C L [.ref (L (1, 0, 0)), .int dv, .int job, .int f] (fun v C' L' => ((∃ d, d < 4 ∧ dv = nI d ∧ kin f (nI 0) (nI 1) ∧ ∃ ff fS kk, kHf S N d job (some (ff, d, kk)) ∧ kFh N d ff fS kk ∧ v = some (.int (if f = nI 0 then S fS d kk 0 else S fS d kk 1))) ∧ L = L' ∧ C = C') ∨ (v = some (.int (-2000000001)) ∧ ((¬ kix dv 4)) ∧ L = L' ∧ C = C') ∨ (v = some (.int (-2000000002)) ∧ ((kix dv 4 ∧ ¬ (kin f (nI 0) (nI 1)))) ∧ L = L' ∧ C = C') ∨ (v = some (.int (-2000000003)) ∧ ((∃ d, d < 4 ∧ dv = nI d ∧ (kin f (nI 0) (nI 1)) ∧ kHf S N d job none)) ∧ L = L' ∧ C = C')) := by
  refine kMH.of htr (by decide) (Nat.le_of_ble_eq_true rfl) (fun Γ hl hR hN hT X hE => ?_)
  refine k_lo (lo' := [(0, .ref (L (1, 0, 0))), (1, .int dv), (2, .int job), (3, .int f)]) ⟨rfl, rfl, rfl, rfl, trivial⟩ ?_
  refine k_aload_n X dL_heldValue_0 rfl rfl ?_
  refine k_iload_n X dL_heldValue_1 rfl rfl ?_
  refine k_iload_n X dL_heldValue_2 rfl rfl ?_
  refine k_iload_n X dL_heldValue_3 rfl rfl ?_
  refine k_callVH (rest := []) (hh := [(0, 7, 8, 22), (0, 7, 13, 13), (0, 7, 18, 16)]) X hT kv_X5_heldValue kb_430 (c_heldValue X.tr hX hO dv job f) hX.1.1.1 rfl rfl rfl rfl rfl (Nat.le_of_ble_eq_true rfl) ⟨by rw [hR]; exact Nat.le_of_ble_eq_true rfl, by rw [hR]; exact Nat.le_of_ble_eq_true rfl⟩ ⟨by rw [hR]; dsimp only; omega, by rw [hR]; dsimp only; omega⟩ dL_heldValue_4 (fun X9 hx => ?_) (fun v C9 L9 h9 => ?_)
  ·
    rcases hx with ⟨rfl, z⟩ | ⟨rfl, z⟩ | ⟨rfl, z⟩
    ·
      refine ⟨tableOf [], ⟨0, 7, 8, 22⟩, tableOf [(0, 7, 13, 13), (0, 7, 18, 16)], _, rfl, (fun z9 h9 => absurd h9 List.not_mem_nil), by decide, by decide, kb_161, by decide +kernel, fun q => ?_⟩
      refine k_astore X dL_heldValue_8 (by rw [hN]; decide) ?_
      refine k_ldc X kb_162 dL_heldValue_10 ?_
      exact k_iret X hE dL_heldValue_12 (by first | omega | exact Nat.le_of_ble_eq_true rfl | (dsimp only; omega)) (by first | omega | exact Nat.le_of_ble_eq_true rfl | (dsimp only; omega)) (Or.inr (Or.inl (⟨rfl, z, rfl, rfl⟩)))
    ·
      refine ⟨tableOf [(0, 7, 8, 22)], ⟨0, 7, 13, 13⟩, tableOf [(0, 7, 18, 16)], _, rfl, (List.forall_mem_cons.mpr ⟨Or.inr ⟨by decide, _, kb_161, by decide +kernel⟩, (fun z9 h9 => absurd h9 List.not_mem_nil)⟩), by decide, by decide, kb_71, by decide +kernel, fun q => ?_⟩
      refine k_astore X dL_heldValue_13 (by rw [hN]; decide) ?_
      refine k_ldc X kb_73 dL_heldValue_15 ?_
      exact k_iret X hE dL_heldValue_17 (by first | omega | exact Nat.le_of_ble_eq_true rfl | (dsimp only; omega)) (by first | omega | exact Nat.le_of_ble_eq_true rfl | (dsimp only; omega)) (Or.inr (Or.inr (Or.inl (⟨rfl, z, rfl, rfl⟩))))
    ·
      refine ⟨tableOf [(0, 7, 8, 22), (0, 7, 13, 13)], ⟨0, 7, 18, 16⟩, tableOf [], _, rfl, (List.forall_mem_cons.mpr ⟨Or.inr ⟨by decide, _, kb_161, by decide +kernel⟩, (List.forall_mem_cons.mpr ⟨Or.inr ⟨by decide, _, kb_71, by decide +kernel⟩, (fun z9 h9 => absurd h9 List.not_mem_nil)⟩)⟩), by decide, by decide, kb_72, by decide +kernel, fun q => ?_⟩
      refine k_astore X dL_heldValue_18 (by rw [hN]; decide) ?_
      refine k_ldc X kb_74 dL_heldValue_20 ?_
      exact k_iret X hE dL_heldValue_22 (by first | omega | exact Nat.le_of_ble_eq_true rfl | (dsimp only; omega)) (by first | omega | exact Nat.le_of_ble_eq_true rfl | (dsimp only; omega)) (Or.inr (Or.inr (Or.inr (⟨rfl, z, rfl, rfl⟩))))
  ·
    obtain ⟨rv, hv⟩ : ∃ rv, v = some (.int rv) := by
      obtain ⟨⟨_, _, _, _, _, _, _, _, _, e⟩, _, _⟩ := h9
      exact ⟨_, e⟩
    subst hv
    exact k_iret X hE dL_heldValue_7 (by first | omega | exact Nat.le_of_ble_eq_true rfl | (dsimp only; omega)) (by first | omega | exact Nat.le_of_ble_eq_true rfl | (dsimp only; omega)) (Or.inl h9)

set_option maxHeartbeats 4000000 in
set_option maxRecDepth 100000 in
theorem h_change {l : Launch} (htr : l.stackTraces = false) {E : kE} {A : Nat → Prop} {C : kC} {L : kL} {S : kI4} {N : kN3} (hX : isX E C L S N) (hO : okX S N) (h512 : ∀ d, d < 4 → N 3 d 0 < 512) (dv job f x : Int32) : kMH l yL_changes cL_changes 6 (some .int) [(0, 9, 10, 22), (0, 9, 15, 13), (0, 9, 20, 16)] 10 221 6 830 E A C L [.ref (L (1, 0, 0)), .int dv, .int job, .int f, .int x] (fun v C' L' => ((∃ d, d < 4 ∧ dv = nI d ∧ (kin f (nI 0) (nI 1) ∧ kin x (nI 0) (if f = nI 0 then nI 2 else nI 10000)) ∧ ∃ ff fS kk, kHf S N d job (some (ff, d, kk)) ∧ kFh N d ff fS kk ∧ v = some (.int (nI (N 3 d 0 + 1 - N 4 d 0))) ∧ isX E C' L' (sPut (sAct S d (N 3 d 0) job f x (if f = nI 0 then S fS d kk 2 else S fS d kk 3) (-1)) fS d kk f x) (w3 N 3 d 0 (N 3 d 0 + 1))) ∧ kFr C L C' L' ∧ ∀ t : kT, t.1 ≤ 1 → L' t = L t) ∨ (v = some (.int (-2000000001)) ∧ ((¬ kix dv 4)) ∧ L = L' ∧ C = C') ∨ (v = some (.int (-2000000002)) ∧ ((kix dv 4 ∧ ¬ (kin f (nI 0) (nI 1) ∧ kin x (nI 0) (if f = nI 0 then nI 2 else nI 10000)))) ∧ L = L' ∧ C = C') ∨ (v = some (.int (-2000000003)) ∧ ((∃ d, d < 4 ∧ dv = nI d ∧ (kin f (nI 0) (nI 1) ∧ kin x (nI 0) (if f = nI 0 then nI 2 else nI 10000)) ∧ kHf S N d job none)) ∧ L = L' ∧ C = C')) := by
  refine kMH.of htr (by decide) (Nat.le_of_ble_eq_true rfl) (fun Γ hl hR hN hT X hE => ?_)
  refine k_lo (lo' := [(0, .ref (L (1, 0, 0))), (1, .int dv), (2, .int job), (3, .int f), (4, .int x)]) ⟨rfl, rfl, rfl, rfl, rfl, trivial⟩ ?_
  refine k_aload_n X dL_changes_0 rfl rfl ?_
  refine k_iload_n X dL_changes_1 rfl rfl ?_
  refine k_iload_n X dL_changes_2 rfl rfl ?_
  refine k_iload_n X dL_changes_3 rfl rfl ?_
  refine k_iload X dL_changes_4 rfl ?_
  refine k_callVH (rest := []) (hh := [(0, 9, 10, 22), (0, 9, 15, 13), (0, 9, 20, 16)]) X hT kv_X5_change kb_257 (c_change X.tr hX hO h512 dv job f x) hX.1.1.1 rfl rfl rfl rfl rfl (Nat.le_of_ble_eq_true rfl) ⟨by rw [hR]; exact Nat.le_of_ble_eq_true rfl, by rw [hR]; exact Nat.le_of_ble_eq_true rfl⟩ ⟨by rw [hR]; dsimp only; omega, by rw [hR]; dsimp only; omega⟩ dL_changes_6 (fun X9 hx => ?_) (fun v C9 L9 h9 => ?_)
  ·
    rcases hx with ⟨rfl, z⟩ | ⟨rfl, z⟩ | ⟨rfl, z⟩
    ·
      refine ⟨tableOf [], ⟨0, 9, 10, 22⟩, tableOf [(0, 9, 15, 13), (0, 9, 20, 16)], _, rfl, (fun z9 h9 => absurd h9 List.not_mem_nil), by decide, by decide, kb_161, by decide +kernel, fun q => ?_⟩
      refine k_astore X dL_changes_10 (by rw [hN]; decide) ?_
      refine k_ldc X kb_162 dL_changes_12 ?_
      exact k_iret X hE dL_changes_14 (by first | omega | exact Nat.le_of_ble_eq_true rfl | (dsimp only; omega)) (by first | omega | exact Nat.le_of_ble_eq_true rfl | (dsimp only; omega)) (Or.inr (Or.inl (⟨rfl, z, rfl, rfl⟩)))
    ·
      refine ⟨tableOf [(0, 9, 10, 22)], ⟨0, 9, 15, 13⟩, tableOf [(0, 9, 20, 16)], _, rfl, (List.forall_mem_cons.mpr ⟨Or.inr ⟨by decide, _, kb_161, by decide +kernel⟩, (fun z9 h9 => absurd h9 List.not_mem_nil)⟩), by decide, by decide, kb_71, by decide +kernel, fun q => ?_⟩
      refine k_astore X dL_changes_15 (by rw [hN]; decide) ?_
      refine k_ldc X kb_73 dL_changes_17 ?_
      exact k_iret X hE dL_changes_19 (by first | omega | exact Nat.le_of_ble_eq_true rfl | (dsimp only; omega)) (by first | omega | exact Nat.le_of_ble_eq_true rfl | (dsimp only; omega)) (Or.inr (Or.inr (Or.inl (⟨rfl, z, rfl, rfl⟩))))
    ·
      refine ⟨tableOf [(0, 9, 10, 22), (0, 9, 15, 13)], ⟨0, 9, 20, 16⟩, tableOf [], _, rfl, (List.forall_mem_cons.mpr ⟨Or.inr ⟨by decide, _, kb_161, by decide +kernel⟩, (List.forall_mem_cons.mpr ⟨Or.inr ⟨by decide, _, kb_71, by decide +kernel⟩, (fun z9 h9 => absurd h9 List.not_mem_nil)⟩)⟩), by decide, by decide, kb_72, by decide +kernel, fun q => ?_⟩
      refine k_astore X dL_changes_20 (by rw [hN]; decide) ?_
      refine k_ldc X kb_74 dL_changes_22 ?_
      exact k_iret X hE dL_changes_24 (by first | omega | exact Nat.le_of_ble_eq_true rfl | (dsimp only; omega)) (by first | omega | exact Nat.le_of_ble_eq_true rfl | (dsimp only; omega)) (Or.inr (Or.inr (Or.inr (⟨rfl, z, rfl, rfl⟩))))
  ·
    obtain ⟨rv, hv⟩ : ∃ rv, v = some (.int rv) := by
      obtain ⟨⟨_, _, _, _, _, _, _, _, _, e, _⟩, _, _⟩ := h9
      exact ⟨_, e⟩
    subst hv
    exact k_iret X hE dL_changes_9 (by first | omega | exact Nat.le_of_ble_eq_true rfl | (dsimp only; omega)) (by first | omega | exact Nat.le_of_ble_eq_true rfl | (dsimp only; omega)) (Or.inl h9)

set_option maxHeartbeats 4000000 in
set_option maxRecDepth 100000 in
theorem h_make {l : Launch} (htr : l.stackTraces = false) {E : kE} {A : Nat → Prop} {C : kC} {L : kL} {S : kI4} {N : kN3} (hX : isX E C L S N) (hO : okX S N) (h512 : ∀ d, d < 4 → N 2 d 0 < 512 ∧ N 3 d 0 < 512) (dv x : Int32) : kMH l yL_makes cL_makes 4 (some .int) [(0, 6, 7, 22), (0, 6, 11, 13)] 9 216 7 1620 E A C L [.ref (L (1, 0, 0)), .int dv, .int x] (fun v C' L' => ((∃ d, d < 4 ∧ dv = nI d ∧ kin x (nI 0) (nI 9) ∧ v = some (.int (nI (1000 + N 2 d 0))) ∧ isX E C' L' (sMake S N d x) (nMake N d)) ∧ kFr C L C' L' ∧ ∀ t : kT, t.1 ≤ 1 → L' t = L t) ∨ (v = some (.int (-2000000001)) ∧ ((¬ kix dv 4)) ∧ L = L' ∧ C = C') ∨ (v = some (.int (-2000000002)) ∧ ((kix dv 4 ∧ ¬ (kin x (nI 0) (nI 9)))) ∧ L = L' ∧ C = C')) := by
  refine kMH.of htr (by decide) (Nat.le_of_ble_eq_true rfl) (fun Γ hl hR hN hT X hE => ?_)
  refine k_lo (lo' := [(0, .ref (L (1, 0, 0))), (1, .int dv), (2, .int x)]) ⟨rfl, rfl, rfl, trivial⟩ ?_
  refine k_aload_n X dL_makes_0 rfl rfl ?_
  refine k_iload_n X dL_makes_1 rfl rfl ?_
  refine k_iload_n X dL_makes_2 rfl rfl ?_
  refine k_callVH (rest := []) (hh := [(0, 6, 7, 22), (0, 6, 11, 13)]) X hT kv_X5_make kb_307 (c_make X.tr hX hO h512 dv x) hX.1.1.1 rfl rfl rfl rfl rfl (Nat.le_of_ble_eq_true rfl) ⟨by rw [hR]; exact Nat.le_of_ble_eq_true rfl, by rw [hR]; exact Nat.le_of_ble_eq_true rfl⟩ ⟨by rw [hR]; dsimp only; omega, by rw [hR]; dsimp only; omega⟩ dL_makes_3 (fun X9 hx => ?_) (fun v C9 L9 h9 => ?_)
  ·
    rcases hx with ⟨rfl, z⟩ | ⟨rfl, z⟩
    ·
      refine ⟨tableOf [], ⟨0, 6, 7, 22⟩, tableOf [(0, 6, 11, 13)], _, rfl, (fun z9 h9 => absurd h9 List.not_mem_nil), by decide, by decide, kb_161, by decide +kernel, fun q => ?_⟩
      refine k_astore_n X dL_makes_7 rfl (by rw [hN]; decide) ?_
      refine k_ldc X kb_162 dL_makes_8 ?_
      exact k_iret X hE dL_makes_10 (by first | omega | exact Nat.le_of_ble_eq_true rfl | (dsimp only; omega)) (by first | omega | exact Nat.le_of_ble_eq_true rfl | (dsimp only; omega)) (Or.inr (Or.inl (⟨rfl, z, rfl, rfl⟩)))
    ·
      refine ⟨tableOf [(0, 6, 7, 22)], ⟨0, 6, 11, 13⟩, tableOf [], _, rfl, (List.forall_mem_cons.mpr ⟨Or.inr ⟨by decide, _, kb_161, by decide +kernel⟩, (fun z9 h9 => absurd h9 List.not_mem_nil)⟩), by decide, by decide, kb_71, by decide +kernel, fun q => ?_⟩
      refine k_astore_n X dL_makes_11 rfl (by rw [hN]; decide) ?_
      refine k_ldc X kb_73 dL_makes_12 ?_
      exact k_iret X hE dL_makes_14 (by first | omega | exact Nat.le_of_ble_eq_true rfl | (dsimp only; omega)) (by first | omega | exact Nat.le_of_ble_eq_true rfl | (dsimp only; omega)) (Or.inr (Or.inr (⟨rfl, z, rfl, rfl⟩)))
  ·
    obtain ⟨rv, hv⟩ : ∃ rv, v = some (.int rv) := by
      obtain ⟨⟨_, _, _, _, e, _⟩, _, _⟩ := h9
      exact ⟨_, e⟩
    subst hv
    exact k_iret X hE dL_makes_6 (by first | omega | exact Nat.le_of_ble_eq_true rfl | (dsimp only; omega)) (by first | omega | exact Nat.le_of_ble_eq_true rfl | (dsimp only; omega)) (Or.inl h9)

set_option maxHeartbeats 4000000 in
set_option maxRecDepth 100000 in
theorem h_numberOf {l : Launch} (htr : l.stackTraces = false) {E : kE} {A : Nat → Prop} {C : kC} {L : kL} {S : kI4} {N : kN3} (hX : isX E C L S N) (hO : okX S N) (dv own : Int32) : kMH l yL_number cL_number 4 (some .int) [(0, 6, 7, 22), (0, 6, 11, 13)] 8 126 2 12 E A C L [.ref (L (1, 0, 0)), .int dv, .int own] (fun v C' L' => ((∃ d, d < 4 ∧ dv = nI d ∧ ∃ k, k < N 2 d 0 ∧ own = nI (1000 + k) ∧ v = some (.int (S 9 d k 0))) ∧ L = L' ∧ C = C') ∨ (v = some (.int (-2000000001)) ∧ ((¬ kix dv 4)) ∧ L = L' ∧ C = C') ∨ (v = some (.int (-2000000002)) ∧ ((∃ d, d < 4 ∧ dv = nI d ∧ ∀ k, k < N 2 d 0 → own ≠ nI (1000 + k))) ∧ L = L' ∧ C = C')) := by
  refine kMH.of htr (by decide) (Nat.le_of_ble_eq_true rfl) (fun Γ hl hR hN hT X hE => ?_)
  refine k_lo (lo' := [(0, .ref (L (1, 0, 0))), (1, .int dv), (2, .int own)]) ⟨rfl, rfl, rfl, trivial⟩ ?_
  refine k_aload_n X dL_number_0 rfl rfl ?_
  refine k_iload_n X dL_number_1 rfl rfl ?_
  refine k_iload_n X dL_number_2 rfl rfl ?_
  refine k_callVH (rest := []) (hh := [(0, 6, 7, 22), (0, 6, 11, 13)]) X hT kv_X5_numberOf kb_437 (c_numberOf X.tr hX hO dv own) hX.1.1.1 rfl rfl rfl rfl rfl (Nat.le_of_ble_eq_true rfl) ⟨by rw [hR]; exact Nat.le_of_ble_eq_true rfl, by rw [hR]; exact Nat.le_of_ble_eq_true rfl⟩ ⟨by rw [hR]; dsimp only; omega, by rw [hR]; dsimp only; omega⟩ dL_number_3 (fun X9 hx => ?_) (fun v C9 L9 h9 => ?_)
  ·
    rcases hx with ⟨rfl, z⟩ | ⟨rfl, z⟩
    ·
      refine ⟨tableOf [], ⟨0, 6, 7, 22⟩, tableOf [(0, 6, 11, 13)], _, rfl, (fun z9 h9 => absurd h9 List.not_mem_nil), by decide, by decide, kb_161, by decide +kernel, fun q => ?_⟩
      refine k_astore_n X dL_number_7 rfl (by rw [hN]; decide) ?_
      refine k_ldc X kb_162 dL_number_8 ?_
      exact k_iret X hE dL_number_10 (by first | omega | exact Nat.le_of_ble_eq_true rfl | (dsimp only; omega)) (by first | omega | exact Nat.le_of_ble_eq_true rfl | (dsimp only; omega)) (Or.inr (Or.inl (⟨rfl, z, rfl, rfl⟩)))
    ·
      refine ⟨tableOf [(0, 6, 7, 22)], ⟨0, 6, 11, 13⟩, tableOf [], _, rfl, (List.forall_mem_cons.mpr ⟨Or.inr ⟨by decide, _, kb_161, by decide +kernel⟩, (fun z9 h9 => absurd h9 List.not_mem_nil)⟩), by decide, by decide, kb_71, by decide +kernel, fun q => ?_⟩
      refine k_astore_n X dL_number_11 rfl (by rw [hN]; decide) ?_
      refine k_ldc X kb_73 dL_number_12 ?_
      exact k_iret X hE dL_number_14 (by first | omega | exact Nat.le_of_ble_eq_true rfl | (dsimp only; omega)) (by first | omega | exact Nat.le_of_ble_eq_true rfl | (dsimp only; omega)) (Or.inr (Or.inr (⟨rfl, z, rfl, rfl⟩)))
  ·
    obtain ⟨rv, hv⟩ : ∃ rv, v = some (.int rv) := by
      obtain ⟨⟨_, _, _, _, _, _, e⟩, _, _⟩ := h9
      exact ⟨_, e⟩
    subst hv
    exact k_iret X hE dL_number_6 (by first | omega | exact Nat.le_of_ble_eq_true rfl | (dsimp only; omega)) (by first | omega | exact Nat.le_of_ble_eq_true rfl | (dsimp only; omega)) (Or.inl h9)

set_option maxHeartbeats 4000000 in
set_option maxRecDepth 100000 in
theorem h_send {l : Launch} (htr : l.stackTraces = false) {E : kE} {A : Nat → Prop} {C : kC} {L : kL} {S : kI4} {N : kN3} (hX : isX E C L S N) (hO : okX S N) (h54 : ∀ d, d < 4 → N 5 d 0 ≤ N 4 d 0) (dv most : Int32) (m0 : Nat) (hm0 : ∀ d mo, d < 4 → dv = nI d → mo ≤ 100 → most = nI mo → min mo (N 3 d 0 - N 4 d 0) ≤ m0) : kMH l yL_sends cL_sends 4 (some .int) [(0, 6, 7, 22), (0, 6, 11, 13)] 10 245 (2 + 6 * m0) (12 + 900 * m0) E A C L [.ref (L (1, 0, 0)), .int dv, .int most] (fun v C' L' => ((∃ d, d < 4 ∧ dv = nI d ∧ ∃ mo, 1 ≤ mo ∧ mo ≤ 100 ∧ most = nI mo ∧ ∃ c S1 N1, xSnd S N d (min mo (N 3 d 0 - N 4 d 0)) c S1 N1 ∧ v = some (.int (nI c)) ∧ isX E C' L' (w4 S1 12 0 0 0 (S1 12 0 0 0 + nI c)) N1) ∧ kFr C L C' L' ∧ ∀ t : kT, t.1 ≤ 1 → L' t = L t) ∨ (v = some (.int (-2000000001)) ∧ ((¬ kix dv 4)) ∧ L = L' ∧ C = C') ∨ (v = some (.int (-2000000002)) ∧ ((kix dv 4 ∧ ¬ (kin most (nI 1) (nI 100)))) ∧ L = L' ∧ C = C')) := by
  refine kMH.of htr (by decide) (Nat.le_of_ble_eq_true rfl) (fun Γ hl hR hN hT X hE => ?_)
  refine k_lo (lo' := [(0, .ref (L (1, 0, 0))), (1, .int dv), (2, .int most)]) ⟨rfl, rfl, rfl, trivial⟩ ?_
  refine k_aload_n X dL_sends_0 rfl rfl ?_
  refine k_iload_n X dL_sends_1 rfl rfl ?_
  refine k_iload_n X dL_sends_2 rfl rfl ?_
  refine k_callVH (rest := []) (hh := [(0, 6, 7, 22), (0, 6, 11, 13)]) X hT kv_X5_send kb_334 (c_send X.tr hX hO h54 dv most m0 hm0) hX.1.1.1 rfl rfl rfl rfl rfl (Nat.le_of_ble_eq_true rfl) ⟨by rw [hR]; exact Nat.le_of_ble_eq_true rfl, by rw [hR]; exact Nat.le_of_ble_eq_true rfl⟩ ⟨by rw [hR]; dsimp only; omega, by rw [hR]; dsimp only; omega⟩ dL_sends_3 (fun X9 hx => ?_) (fun v C9 L9 h9 => ?_)
  ·
    rcases hx with ⟨rfl, z⟩ | ⟨rfl, z⟩
    ·
      refine ⟨tableOf [], ⟨0, 6, 7, 22⟩, tableOf [(0, 6, 11, 13)], _, rfl, (fun z9 h9 => absurd h9 List.not_mem_nil), by decide, by decide, kb_161, by decide +kernel, fun q => ?_⟩
      refine k_astore_n X dL_sends_7 rfl (by rw [hN]; decide) ?_
      refine k_ldc X kb_162 dL_sends_8 ?_
      exact k_iret X hE dL_sends_10 (by first | omega | exact Nat.le_of_ble_eq_true rfl | (dsimp only; omega)) (by first | omega | exact Nat.le_of_ble_eq_true rfl | (dsimp only; omega)) (Or.inr (Or.inl (⟨rfl, z, rfl, rfl⟩)))
    ·
      refine ⟨tableOf [(0, 6, 7, 22)], ⟨0, 6, 11, 13⟩, tableOf [], _, rfl, (List.forall_mem_cons.mpr ⟨Or.inr ⟨by decide, _, kb_161, by decide +kernel⟩, (fun z9 h9 => absurd h9 List.not_mem_nil)⟩), by decide, by decide, kb_71, by decide +kernel, fun q => ?_⟩
      refine k_astore_n X dL_sends_11 rfl (by rw [hN]; decide) ?_
      refine k_ldc X kb_73 dL_sends_12 ?_
      exact k_iret X hE dL_sends_14 (by first | omega | exact Nat.le_of_ble_eq_true rfl | (dsimp only; omega)) (by first | omega | exact Nat.le_of_ble_eq_true rfl | (dsimp only; omega)) (Or.inr (Or.inr (⟨rfl, z, rfl, rfl⟩)))
  ·
    obtain ⟨rv, hv⟩ : ∃ rv, v = some (.int rv) := by
      obtain ⟨⟨_, _, _, _, _, _, _, _, _, _, _, e, _⟩, _, _⟩ := h9
      exact ⟨_, e⟩
    subst hv
    exact k_iret X hE dL_sends_6 (by first | omega | exact Nat.le_of_ble_eq_true rfl | (dsimp only; omega)) (by first | omega | exact Nat.le_of_ble_eq_true rfl | (dsimp only; omega)) (Or.inl h9)

set_option maxHeartbeats 4000000 in
set_option maxRecDepth 100000 in
theorem h_waiting {l : Launch} (htr : l.stackTraces = false) {E : kE} {A : Nat → Prop} {C : kC} {L : kL} {S : kI4} {N : kN3} (hX : isX E C L S N) (hO : okX S N) (dv : Int32) : kMH l yL_waiting cL_waiting 3 (some .int) [(0, 5, 6, 22)] 8 124 1 6 E A C L [.ref (L (1, 0, 0)), .int dv] (fun v C' L' => ((∃ d, d < 4 ∧ dv = nI d ∧ v = some (.int (nI (N 3 d 0 - N 4 d 0)))) ∧ L = L' ∧ C = C') ∨ (v = some (.int (-2000000001)) ∧ ((¬ kix dv 4)) ∧ L = L' ∧ C = C')) := by
  refine kMH.of htr (by decide) (Nat.le_of_ble_eq_true rfl) (fun Γ hl hR hN hT X hE => ?_)
  refine k_lo (lo' := [(0, .ref (L (1, 0, 0))), (1, .int dv)]) ⟨rfl, rfl, trivial⟩ ?_
  refine k_aload_n X dL_waiting_0 rfl rfl ?_
  refine k_iload_n X dL_waiting_1 rfl rfl ?_
  refine k_callVH (rest := []) (hh := [(0, 5, 6, 22)]) X hT kv_X5_waiting kb_327 (c_waiting X.tr hX hO dv) hX.1.1.1 rfl rfl rfl rfl rfl (Nat.le_of_ble_eq_true rfl) ⟨by rw [hR]; exact Nat.le_of_ble_eq_true rfl, by rw [hR]; exact Nat.le_of_ble_eq_true rfl⟩ ⟨by rw [hR]; dsimp only; omega, by rw [hR]; dsimp only; omega⟩ dL_waiting_2 (fun X9 hx => ?_) (fun v C9 L9 h9 => ?_)
  ·
    obtain ⟨rfl, z⟩ := hx
    refine ⟨tableOf [], ⟨0, 5, 6, 22⟩, tableOf [], _, rfl, (fun z9 h9 => absurd h9 List.not_mem_nil), by decide, by decide, kb_161, by decide +kernel, fun q => ?_⟩
    refine k_astore_n X dL_waiting_6 rfl (by rw [hN]; decide) ?_
    refine k_ldc X kb_162 dL_waiting_7 ?_
    exact k_iret X hE dL_waiting_9 (by first | omega | exact Nat.le_of_ble_eq_true rfl | (dsimp only; omega)) (by first | omega | exact Nat.le_of_ble_eq_true rfl | (dsimp only; omega)) (Or.inr (⟨rfl, z, rfl, rfl⟩))
  ·
    obtain ⟨rv, hv⟩ : ∃ rv, v = some (.int rv) := by
      obtain ⟨⟨_, _, _, e⟩, _, _⟩ := h9
      exact ⟨_, e⟩
    subst hv
    exact k_iret X hE dL_waiting_5 (by first | omega | exact Nat.le_of_ble_eq_true rfl | (dsimp only; omega)) (by first | omega | exact Nat.le_of_ble_eq_true rfl | (dsimp only; omega)) (Or.inl h9)

set_option maxHeartbeats 4000000 in
set_option maxRecDepth 100000 in
theorem h_pile {l : Launch} (htr : l.stackTraces = false) {E : kE} {A : Nat → Prop} {C : kC} {L : kL} {S : kI4} {N : kN3} (hX : isX E C L S N) (hO : okX S N) (dv : Int32) : kMH l yL_pile cL_pile 3 (some .int) [(0, 5, 6, 22)] 8 124 1 6 E A C L [.ref (L (1, 0, 0)), .int dv] (fun v C' L' => ((∃ d, d < 4 ∧ dv = nI d ∧ v = some (.int (nI (N 5 d 0)))) ∧ L = L' ∧ C = C') ∨ (v = some (.int (-2000000001)) ∧ ((¬ kix dv 4)) ∧ L = L' ∧ C = C')) := by
  refine kMH.of htr (by decide) (Nat.le_of_ble_eq_true rfl) (fun Γ hl hR hN hT X hE => ?_)
  refine k_lo (lo' := [(0, .ref (L (1, 0, 0))), (1, .int dv)]) ⟨rfl, rfl, trivial⟩ ?_
  refine k_aload_n X dL_pile_0 rfl rfl ?_
  refine k_iload_n X dL_pile_1 rfl rfl ?_
  refine k_callVH (rest := []) (hh := [(0, 5, 6, 22)]) X hT kv_X5_pile kb_445 (c_pile X.tr hX hO dv) hX.1.1.1 rfl rfl rfl rfl rfl (Nat.le_of_ble_eq_true rfl) ⟨by rw [hR]; exact Nat.le_of_ble_eq_true rfl, by rw [hR]; exact Nat.le_of_ble_eq_true rfl⟩ ⟨by rw [hR]; dsimp only; omega, by rw [hR]; dsimp only; omega⟩ dL_pile_2 (fun X9 hx => ?_) (fun v C9 L9 h9 => ?_)
  ·
    obtain ⟨rfl, z⟩ := hx
    refine ⟨tableOf [], ⟨0, 5, 6, 22⟩, tableOf [], _, rfl, (fun z9 h9 => absurd h9 List.not_mem_nil), by decide, by decide, kb_161, by decide +kernel, fun q => ?_⟩
    refine k_astore_n X dL_pile_6 rfl (by rw [hN]; decide) ?_
    refine k_ldc X kb_162 dL_pile_7 ?_
    exact k_iret X hE dL_pile_9 (by first | omega | exact Nat.le_of_ble_eq_true rfl | (dsimp only; omega)) (by first | omega | exact Nat.le_of_ble_eq_true rfl | (dsimp only; omega)) (Or.inr (⟨rfl, z, rfl, rfl⟩))
  ·
    obtain ⟨rv, hv⟩ : ∃ rv, v = some (.int rv) := by
      obtain ⟨⟨_, _, _, e⟩, _, _⟩ := h9
      exact ⟨_, e⟩
    subst hv
    exact k_iret X hE dL_pile_5 (by first | omega | exact Nat.le_of_ble_eq_true rfl | (dsimp only; omega)) (by first | omega | exact Nat.le_of_ble_eq_true rfl | (dsimp only; omega)) (Or.inl h9)

set_option maxHeartbeats 4000000 in
set_option maxRecDepth 100000 in
theorem h_reason {l : Launch} (htr : l.stackTraces = false) {E : kE} {A : Nat → Prop} {C : kC} {L : kL} {S : kI4} {N : kN3} (hX : isX E C L S N) (hO : okX S N) (dv pl : Int32) : kMH l yL_reason cL_reason 4 (some .int) [(0, 6, 7, 22)] 9 148 2 12 E A C L [.ref (L (1, 0, 0)), .int dv, .int pl] (fun v C' L' => ((∃ d, d < 4 ∧ dv = nI d ∧ ∃ i, i < N 5 d 0 ∧ pl = nI i ∧ v = some (.int (S 11 d (N 6 d i) 4))) ∧ L = L' ∧ C = C') ∨ (v = some (.int (-2000000001)) ∧ ((¬ kix dv 4) ∨ (∃ d, d < 4 ∧ dv = nI d ∧ ¬ kix pl (N 5 d 0))) ∧ L = L' ∧ C = C')) := by
  refine kMH.of htr (by decide) (Nat.le_of_ble_eq_true rfl) (fun Γ hl hR hN hT X hE => ?_)
  refine k_lo (lo' := [(0, .ref (L (1, 0, 0))), (1, .int dv), (2, .int pl)]) ⟨rfl, rfl, rfl, trivial⟩ ?_
  refine k_aload_n X dL_reason_0 rfl rfl ?_
  refine k_iload_n X dL_reason_1 rfl rfl ?_
  refine k_iload_n X dL_reason_2 rfl rfl ?_
  refine k_callVH (rest := []) (hh := [(0, 6, 7, 22)]) X hT kv_X5_reason kb_453 (c_reason X.tr hX hO dv pl) hX.1.1.1 rfl rfl rfl rfl rfl (Nat.le_of_ble_eq_true rfl) ⟨by rw [hR]; exact Nat.le_of_ble_eq_true rfl, by rw [hR]; exact Nat.le_of_ble_eq_true rfl⟩ ⟨by rw [hR]; dsimp only; omega, by rw [hR]; dsimp only; omega⟩ dL_reason_3 (fun X9 hx => ?_) (fun v C9 L9 h9 => ?_)
  ·
    rcases hx with ⟨rfl, z⟩ | ⟨rfl, z⟩
    ·
      refine ⟨tableOf [], ⟨0, 6, 7, 22⟩, tableOf [], _, rfl, (fun z9 h9 => absurd h9 List.not_mem_nil), by decide, by decide, kb_161, by decide +kernel, fun q => ?_⟩
      refine k_astore_n X dL_reason_7 rfl (by rw [hN]; decide) ?_
      refine k_ldc X kb_162 dL_reason_8 ?_
      exact k_iret X hE dL_reason_10 (by first | omega | exact Nat.le_of_ble_eq_true rfl | (dsimp only; omega)) (by first | omega | exact Nat.le_of_ble_eq_true rfl | (dsimp only; omega)) (Or.inr (⟨rfl, (Or.inl z), rfl, rfl⟩))
    ·
      refine ⟨tableOf [], ⟨0, 6, 7, 22⟩, tableOf [], _, rfl, (fun z9 h9 => absurd h9 List.not_mem_nil), by decide, by decide, kb_161, by decide +kernel, fun q => ?_⟩
      refine k_astore_n X dL_reason_7 rfl (by rw [hN]; decide) ?_
      refine k_ldc X kb_162 dL_reason_8 ?_
      exact k_iret X hE dL_reason_10 (by first | omega | exact Nat.le_of_ble_eq_true rfl | (dsimp only; omega)) (by first | omega | exact Nat.le_of_ble_eq_true rfl | (dsimp only; omega)) (Or.inr (⟨rfl, (Or.inr z), rfl, rfl⟩))
  ·
    obtain ⟨rv, hv⟩ : ∃ rv, v = some (.int rv) := by
      obtain ⟨⟨_, _, _, _, _, _, e⟩, _, _⟩ := h9
      exact ⟨_, e⟩
    subst hv
    exact k_iret X hE dL_reason_6 (by first | omega | exact Nat.le_of_ble_eq_true rfl | (dsimp only; omega)) (by first | omega | exact Nat.le_of_ble_eq_true rfl | (dsimp only; omega)) (Or.inl h9)

set_option maxHeartbeats 4000000 in
set_option maxRecDepth 100000 in
theorem h_refusedValue {l : Launch} (htr : l.stackTraces = false) {E : kE} {A : Nat → Prop} {C : kC} {L : kL} {S : kI4} {N : kN3} (hX : isX E C L S N) (hO : okX S N) (dv pl : Int32) : kMH l yL_refused cL_refused 4 (some .int) [(0, 6, 7, 22)] 9 148 2 12 E A C L [.ref (L (1, 0, 0)), .int dv, .int pl] (fun v C' L' => ((∃ d, d < 4 ∧ dv = nI d ∧ ∃ i, i < N 5 d 0 ∧ pl = nI i ∧ v = some (.int (S 11 d (N 6 d i) 2))) ∧ L = L' ∧ C = C') ∨ (v = some (.int (-2000000001)) ∧ ((¬ kix dv 4) ∨ (∃ d, d < 4 ∧ dv = nI d ∧ ¬ kix pl (N 5 d 0))) ∧ L = L' ∧ C = C')) := by
  refine kMH.of htr (by decide) (Nat.le_of_ble_eq_true rfl) (fun Γ hl hR hN hT X hE => ?_)
  refine k_lo (lo' := [(0, .ref (L (1, 0, 0))), (1, .int dv), (2, .int pl)]) ⟨rfl, rfl, rfl, trivial⟩ ?_
  refine k_aload_n X dL_refused_0 rfl rfl ?_
  refine k_iload_n X dL_refused_1 rfl rfl ?_
  refine k_iload_n X dL_refused_2 rfl rfl ?_
  refine k_callVH (rest := []) (hh := [(0, 6, 7, 22)]) X hT kv_X5_refusedValue kb_466 (c_refusedValue X.tr hX hO dv pl) hX.1.1.1 rfl rfl rfl rfl rfl (Nat.le_of_ble_eq_true rfl) ⟨by rw [hR]; exact Nat.le_of_ble_eq_true rfl, by rw [hR]; exact Nat.le_of_ble_eq_true rfl⟩ ⟨by rw [hR]; dsimp only; omega, by rw [hR]; dsimp only; omega⟩ dL_refused_3 (fun X9 hx => ?_) (fun v C9 L9 h9 => ?_)
  ·
    rcases hx with ⟨rfl, z⟩ | ⟨rfl, z⟩
    ·
      refine ⟨tableOf [], ⟨0, 6, 7, 22⟩, tableOf [], _, rfl, (fun z9 h9 => absurd h9 List.not_mem_nil), by decide, by decide, kb_161, by decide +kernel, fun q => ?_⟩
      refine k_astore_n X dL_refused_7 rfl (by rw [hN]; decide) ?_
      refine k_ldc X kb_162 dL_refused_8 ?_
      exact k_iret X hE dL_refused_10 (by first | omega | exact Nat.le_of_ble_eq_true rfl | (dsimp only; omega)) (by first | omega | exact Nat.le_of_ble_eq_true rfl | (dsimp only; omega)) (Or.inr (⟨rfl, (Or.inl z), rfl, rfl⟩))
    ·
      refine ⟨tableOf [], ⟨0, 6, 7, 22⟩, tableOf [], _, rfl, (fun z9 h9 => absurd h9 List.not_mem_nil), by decide, by decide, kb_161, by decide +kernel, fun q => ?_⟩
      refine k_astore_n X dL_refused_7 rfl (by rw [hN]; decide) ?_
      refine k_ldc X kb_162 dL_refused_8 ?_
      exact k_iret X hE dL_refused_10 (by first | omega | exact Nat.le_of_ble_eq_true rfl | (dsimp only; omega)) (by first | omega | exact Nat.le_of_ble_eq_true rfl | (dsimp only; omega)) (Or.inr (⟨rfl, (Or.inr z), rfl, rfl⟩))
  ·
    obtain ⟨rv, hv⟩ : ∃ rv, v = some (.int rv) := by
      obtain ⟨⟨_, _, _, _, _, _, e⟩, _, _⟩ := h9
      exact ⟨_, e⟩
    subst hv
    exact k_iret X hE dL_refused_6 (by first | omega | exact Nat.le_of_ble_eq_true rfl | (dsimp only; omega)) (by first | omega | exact Nat.le_of_ble_eq_true rfl | (dsimp only; omega)) (Or.inl h9)
